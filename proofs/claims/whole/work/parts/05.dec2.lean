theorem dX6_init_0 : decode cX6_init 0 = .ok (.aload_n 0, 1) := by decide +kernel
theorem dX6_init_1 : decode cX6_init 1 = .ok (.invokespecial 1, 3) := by decide +kernel
theorem dX6_init_4 : decode cX6_init 4 = .ok (.aload_n 0, 1) := by decide +kernel
theorem dX6_init_5 : decode cX6_init 5 = .ok (.bipush 10, 2) := by decide +kernel
theorem dX6_init_7 : decode cX6_init 7 = .ok (.newarray .boolean, 2) := by decide +kernel
theorem dX6_init_9 : decode cX6_init 9 = .ok (.putfield 7, 3) := by decide +kernel
theorem dX6_init_12 : decode cX6_init 12 = .ok (.aload_n 0, 1) := by decide +kernel
theorem dX6_init_13 : decode cX6_init 13 = .ok (.bipush 10, 2) := by decide +kernel
theorem dX6_init_15 : decode cX6_init 15 = .ok (.newarray .int, 2) := by decide +kernel
theorem dX6_init_17 : decode cX6_init 17 = .ok (.putfield 13, 3) := by decide +kernel
theorem dX6_init_20 : decode cX6_init 20 = .ok (.aload_n 0, 1) := by decide +kernel
theorem dX6_init_21 : decode cX6_init 21 = .ok (.bipush 10, 2) := by decide +kernel
theorem dX6_init_23 : decode cX6_init 23 = .ok (.newarray .int, 2) := by decide +kernel
theorem dX6_init_25 : decode cX6_init 25 = .ok (.putfield 17, 3) := by decide +kernel
theorem dX6_init_28 : decode cX6_init 28 = .ok (.aload_n 0, 1) := by decide +kernel
theorem dX6_init_29 : decode cX6_init 29 = .ok (.bipush 10, 2) := by decide +kernel
theorem dX6_init_31 : decode cX6_init 31 = .ok (.newarray .int, 2) := by decide +kernel
theorem dX6_init_33 : decode cX6_init 33 = .ok (.putfield 20, 3) := by decide +kernel
theorem dX6_init_36 : decode cX6_init 36 = .ok (.aload_n 0, 1) := by decide +kernel
theorem dX6_init_37 : decode cX6_init 37 = .ok (.bipush 10, 2) := by decide +kernel
theorem dX6_init_39 : decode cX6_init 39 = .ok (.newarray .int, 2) := by decide +kernel
theorem dX6_init_41 : decode cX6_init 41 = .ok (.putfield 23, 3) := by decide +kernel
theorem dX6_init_44 : decode cX6_init 44 = .ok (.aload_n 0, 1) := by decide +kernel
theorem dX6_init_45 : decode cX6_init 45 = .ok (.bipush 10, 2) := by decide +kernel
theorem dX6_init_47 : decode cX6_init 47 = .ok (.newarray .int, 2) := by decide +kernel
theorem dX6_init_49 : decode cX6_init 49 = .ok (.putfield 26, 3) := by decide +kernel
theorem dX6_init_52 : decode cX6_init 52 = .ok (.aload_n 0, 1) := by decide +kernel
theorem dX6_init_53 : decode cX6_init 53 = .ok (.bipush 10, 2) := by decide +kernel
theorem dX6_init_55 : decode cX6_init 55 = .ok (.newarray .int, 2) := by decide +kernel
theorem dX6_init_57 : decode cX6_init 57 = .ok (.putfield 29, 3) := by decide +kernel
theorem dX6_init_60 : decode cX6_init 60 = .ok (.aload_n 0, 1) := by decide +kernel
theorem dX6_init_61 : decode cX6_init 61 = .ok (.bipush 10, 2) := by decide +kernel
theorem dX6_init_63 : decode cX6_init 63 = .ok (.newarray .int, 2) := by decide +kernel
theorem dX6_init_65 : decode cX6_init 65 = .ok (.putfield 32, 3) := by decide +kernel
theorem dX6_init_68 : decode cX6_init 68 = .ok (.aload_n 0, 1) := by decide +kernel
theorem dX6_init_69 : decode cX6_init 69 = .ok (.bipush 10, 2) := by decide +kernel
theorem dX6_init_71 : decode cX6_init 71 = .ok (.newarray .int, 2) := by decide +kernel
theorem dX6_init_73 : decode cX6_init 73 = .ok (.putfield 35, 3) := by decide +kernel
theorem dX6_init_76 : decode cX6_init 76 = .ok (.aload_n 0, 1) := by decide +kernel
theorem dX6_init_77 : decode cX6_init 77 = .ok (.bipush 10, 2) := by decide +kernel
theorem dX6_init_79 : decode cX6_init 79 = .ok (.newarray .int, 2) := by decide +kernel
theorem dX6_init_81 : decode cX6_init 81 = .ok (.putfield 38, 3) := by decide +kernel
theorem dX6_init_84 : decode cX6_init 84 = .ok (.aload_n 0, 1) := by decide +kernel
theorem dX6_init_85 : decode cX6_init 85 = .ok (.bipush 10, 2) := by decide +kernel
theorem dX6_init_87 : decode cX6_init 87 = .ok (.newarray .int, 2) := by decide +kernel
theorem dX6_init_89 : decode cX6_init 89 = .ok (.putfield 41, 3) := by decide +kernel
theorem dX6_init_92 : decode cX6_init 92 = .ok (.aload_n 0, 1) := by decide +kernel
theorem dX6_init_93 : decode cX6_init 93 = .ok (.bipush 10, 2) := by decide +kernel
theorem dX6_init_95 : decode cX6_init 95 = .ok (.newarray .int, 2) := by decide +kernel
theorem dX6_init_97 : decode cX6_init 97 = .ok (.putfield 44, 3) := by decide +kernel
theorem dX6_init_100 : decode cX6_init 100 = .ok (.aload_n 0, 1) := by decide +kernel
theorem dX6_init_101 : decode cX6_init 101 = .ok (.bipush 40, 2) := by decide +kernel
theorem dX6_init_103 : decode cX6_init 103 = .ok (.newarray .int, 2) := by decide +kernel
theorem dX6_init_105 : decode cX6_init 105 = .ok (.putfield 47, 3) := by decide +kernel
theorem dX6_init_108 : decode cX6_init 108 = .ok (.aload_n 0, 1) := by decide +kernel
theorem dX6_init_109 : decode cX6_init 109 = .ok (.bipush 10, 2) := by decide +kernel
theorem dX6_init_111 : decode cX6_init 111 = .ok (.newarray .int, 2) := by decide +kernel
theorem dX6_init_113 : decode cX6_init 113 = .ok (.putfield 50, 3) := by decide +kernel
theorem dX6_init_116 : decode cX6_init 116 = .ok (.aload_n 0, 1) := by decide +kernel
theorem dX6_init_117 : decode cX6_init 117 = .ok (.bipush 10, 2) := by decide +kernel
theorem dX6_init_119 : decode cX6_init 119 = .ok (.newarray .int, 2) := by decide +kernel
theorem dX6_init_121 : decode cX6_init 121 = .ok (.putfield 53, 3) := by decide +kernel
theorem dX6_init_124 : decode cX6_init 124 = .ok (.aload_n 0, 1) := by decide +kernel
theorem dX6_init_125 : decode cX6_init 125 = .ok (.sipush 500, 3) := by decide +kernel
theorem dX6_init_128 : decode cX6_init 128 = .ok (.newarray .int, 2) := by decide +kernel
theorem dX6_init_130 : decode cX6_init 130 = .ok (.putfield 56, 3) := by decide +kernel
theorem dX6_init_133 : decode cX6_init 133 = .ok (.aload_n 0, 1) := by decide +kernel
theorem dX6_init_134 : decode cX6_init 134 = .ok (.sipush 500, 3) := by decide +kernel
theorem dX6_init_137 : decode cX6_init 137 = .ok (.newarray .int, 2) := by decide +kernel
theorem dX6_init_139 : decode cX6_init 139 = .ok (.putfield 59, 3) := by decide +kernel
theorem dX6_init_142 : decode cX6_init 142 = .ok (.aload_n 0, 1) := by decide +kernel
theorem dX6_init_143 : decode cX6_init 143 = .ok (.sipush 500, 3) := by decide +kernel
theorem dX6_init_146 : decode cX6_init 146 = .ok (.newarray .boolean, 2) := by decide +kernel
theorem dX6_init_148 : decode cX6_init 148 = .ok (.putfield 62, 3) := by decide +kernel
theorem dX6_init_151 : decode cX6_init 151 = .ok (.aload_n 0, 1) := by decide +kernel
theorem dX6_init_152 : decode cX6_init 152 = .ok (.sipush 500, 3) := by decide +kernel
theorem dX6_init_155 : decode cX6_init 155 = .ok (.newarray .boolean, 2) := by decide +kernel
theorem dX6_init_157 : decode cX6_init 157 = .ok (.putfield 65, 3) := by decide +kernel
theorem dX6_init_160 : decode cX6_init 160 = .ok (.aload_n 0, 1) := by decide +kernel
theorem dX6_init_161 : decode cX6_init 161 = .ok (.iconst 3, 1) := by decide +kernel
theorem dX6_init_162 : decode cX6_init 162 = .ok (.newarray .int, 2) := by decide +kernel
theorem dX6_init_164 : decode cX6_init 164 = .ok (.putfield 68, 3) := by decide +kernel
theorem dX6_init_167 : decode cX6_init 167 = .ok (.aload_n 0, 1) := by decide +kernel
theorem dX6_init_168 : decode cX6_init 168 = .ok (.bipush 8, 2) := by decide +kernel
theorem dX6_init_170 : decode cX6_init 170 = .ok (.newarray .int, 2) := by decide +kernel
theorem dX6_init_172 : decode cX6_init 172 = .ok (.putfield 71, 3) := by decide +kernel
theorem dX6_init_175 : decode cX6_init 175 = .ok (.aload_n 0, 1) := by decide +kernel
theorem dX6_init_176 : decode cX6_init 176 = .ok (.bipush 8, 2) := by decide +kernel
theorem dX6_init_178 : decode cX6_init 178 = .ok (.newarray .int, 2) := by decide +kernel
theorem dX6_init_180 : decode cX6_init 180 = .ok (.putfield 74, 3) := by decide +kernel
theorem dX6_init_183 : decode cX6_init 183 = .ok (.aload_n 0, 1) := by decide +kernel
theorem dX6_init_184 : decode cX6_init 184 = .ok (.bipush 8, 2) := by decide +kernel
theorem dX6_init_186 : decode cX6_init 186 = .ok (.newarray .int, 2) := by decide +kernel
theorem dX6_init_188 : decode cX6_init 188 = .ok (.putfield 77, 3) := by decide +kernel
theorem dX6_init_191 : decode cX6_init 191 = .ok (.aload_n 0, 1) := by decide +kernel
theorem dX6_init_192 : decode cX6_init 192 = .ok (.bipush 8, 2) := by decide +kernel
theorem dX6_init_194 : decode cX6_init 194 = .ok (.newarray .int, 2) := by decide +kernel
theorem dX6_init_196 : decode cX6_init 196 = .ok (.putfield 80, 3) := by decide +kernel
theorem dX6_init_199 : decode cX6_init 199 = .ok (.return_, 1) := by decide +kernel
theorem dX6_thrown_0 : decode cX6_thrown 0 = .ok (.aload_n 0, 1) := by decide +kernel
theorem dX6_thrown_1 : decode cX6_thrown 1 = .ok (.getfield 83, 3) := by decide +kernel
theorem dX6_thrown_4 : decode cX6_thrown 4 = .ok (.ireturn, 1) := by decide +kernel
theorem dX6_fails_0 : decode cX6_fails 0 = .ok (.aload_n 0, 1) := by decide +kernel
theorem dX6_fails_1 : decode cX6_fails 1 = .ok (.iload_n 1, 1) := by decide +kernel
theorem dX6_fails_2 : decode cX6_fails 2 = .ok (.putfield 83, 3) := by decide +kernel
theorem dX6_fails_5 : decode cX6_fails 5 = .ok (.iload_n 1, 1) := by decide +kernel
theorem dX6_fails_6 : decode cX6_fails 6 = .ok (.ifCond .le 7, 3) := by decide +kernel
theorem dX6_fails_9 : decode cX6_fails 9 = .ok (.iconst 1, 1) := by decide +kernel
theorem dX6_fails_10 : decode cX6_fails 10 = .ok (.goto 4, 3) := by decide +kernel
theorem dX6_fails_13 : decode cX6_fails 13 = .ok (.iconst 0, 1) := by decide +kernel
theorem dX6_fails_14 : decode cX6_fails 14 = .ok (.ireturn, 1) := by decide +kernel
theorem dX6_lies_0 : decode cX6_lies 0 = .ok (.iload_n 0, 1) := by decide +kernel
theorem dX6_lies_1 : decode cX6_lies 1 = .ok (.iload_n 1, 1) := by decide +kernel
theorem dX6_lies_2 : decode cX6_lies 2 = .ok (.if_icmp .lt 12, 3) := by decide +kernel
theorem dX6_lies_5 : decode cX6_lies 5 = .ok (.iload_n 0, 1) := by decide +kernel
theorem dX6_lies_6 : decode cX6_lies 6 = .ok (.iload_n 2, 1) := by decide +kernel
theorem dX6_lies_7 : decode cX6_lies 7 = .ok (.if_icmp .gt 7, 3) := by decide +kernel
theorem dX6_lies_10 : decode cX6_lies 10 = .ok (.iconst 1, 1) := by decide +kernel
theorem dX6_lies_11 : decode cX6_lies 11 = .ok (.goto 4, 3) := by decide +kernel
theorem dX6_lies_14 : decode cX6_lies 14 = .ok (.iconst 0, 1) := by decide +kernel
theorem dX6_lies_15 : decode cX6_lies 15 = .ok (.ireturn, 1) := by decide +kernel
set_option maxRecDepth 20000 in
theorem ggX6_isPerson_X6_lies : GoodIn wsX6_isPerson wsX6_lies := goodIn_r _ [5] (by decide +kernel) (by decide +kernel)
set_option maxRecDepth 20000 in
theorem gX6_isPerson_X6_lies : GoodIn wsX6_isPerson (va_wsS RX6 90 yX6_lies wsX6_lies) := goodIn_app (goodIn_of _ (by decide +kernel)) ggX6_isPerson_X6_lies
theorem dX6_isPerson_0 : decode cX6_isPerson 0 = .ok (.iload_n 1, 1) := by decide +kernel
theorem dX6_isPerson_1 : decode cX6_isPerson 1 = .ok (.iconst 0, 1) := by decide +kernel
theorem dX6_isPerson_2 : decode cX6_isPerson 2 = .ok (.aload_n 0, 1) := by decide +kernel
theorem dX6_isPerson_3 : decode cX6_isPerson 3 = .ok (.getfield 87, 3) := by decide +kernel
theorem dX6_isPerson_6 : decode cX6_isPerson 6 = .ok (.iconst 1, 1) := by decide +kernel
theorem dX6_isPerson_7 : decode cX6_isPerson 7 = .ok (.isub, 1) := by decide +kernel
theorem dX6_isPerson_8 : decode cX6_isPerson 8 = .ok (.invokestatic 90, 3) := by decide +kernel
theorem dX6_isPerson_11 : decode cX6_isPerson 11 = .ok (.ireturn, 1) := by decide +kernel
set_option maxRecDepth 20000 in
theorem ggX6_isOrder_X6_lies : GoodIn wsX6_isOrder wsX6_lies := goodIn_r _ [5] (by decide +kernel) (by decide +kernel)
set_option maxRecDepth 20000 in
theorem gX6_isOrder_X6_lies : GoodIn wsX6_isOrder (va_wsS RX6 90 yX6_lies wsX6_lies) := goodIn_app (goodIn_of _ (by decide +kernel)) ggX6_isOrder_X6_lies
theorem dX6_isOrder_0 : decode cX6_isOrder 0 = .ok (.iload_n 1, 1) := by decide +kernel
theorem dX6_isOrder_1 : decode cX6_isOrder 1 = .ok (.iconst 0, 1) := by decide +kernel
theorem dX6_isOrder_2 : decode cX6_isOrder 2 = .ok (.aload_n 0, 1) := by decide +kernel
theorem dX6_isOrder_3 : decode cX6_isOrder 3 = .ok (.getfield 94, 3) := by decide +kernel
theorem dX6_isOrder_6 : decode cX6_isOrder 6 = .ok (.iconst 1, 1) := by decide +kernel
theorem dX6_isOrder_7 : decode cX6_isOrder 7 = .ok (.isub, 1) := by decide +kernel
theorem dX6_isOrder_8 : decode cX6_isOrder 8 = .ok (.invokestatic 90, 3) := by decide +kernel
theorem dX6_isOrder_11 : decode cX6_isOrder 11 = .ok (.ireturn, 1) := by decide +kernel
set_option maxRecDepth 20000 in
theorem ggX6_admit_X6_lies : GoodIn wsX6_admit wsX6_lies := goodIn_r _ [11] (by decide +kernel) (by decide +kernel)
set_option maxRecDepth 20000 in
theorem gX6_admit_X6_lies : GoodIn wsX6_admit (va_wsS RX6 90 yX6_lies wsX6_lies) := goodIn_app (goodIn_of _ (by decide +kernel)) ggX6_admit_X6_lies
set_option maxRecDepth 20000 in
theorem ggX6_admit_X6_fails : GoodIn wsX6_admit wsX6_fails := goodIn_r _ [15, 16, 17, 18, 19, 20, 21, 22, 23, 24, 25, 26, 27, 28, 29, 30, 31, 32, 33, 34, 35, 36, 37, 38, 39, 40, 41, 42, 43, 44] (by decide +kernel) (by decide +kernel)
set_option maxRecDepth 20000 in
theorem gX6_admit_X6_fails : GoodIn wsX6_admit (wsV RX6 97 RX6 yX6_fails wsX6_fails) := goodIn_app (goodIn_of _ (by decide +kernel)) ggX6_admit_X6_fails
theorem dX6_admit_0 : decode cX6_admit 0 = .ok (.iload_n 1, 1) := by decide +kernel
theorem dX6_admit_1 : decode cX6_admit 1 = .ok (.iconst 1, 1) := by decide +kernel
theorem dX6_admit_2 : decode cX6_admit 2 = .ok (.sipush 2000, 3) := by decide +kernel
theorem dX6_admit_5 : decode cX6_admit 5 = .ok (.invokestatic 90, 3) := by decide +kernel
theorem dX6_admit_8 : decode cX6_admit 8 = .ok (.ifCond .eq 17, 3) := by decide +kernel
theorem dX6_admit_11 : decode cX6_admit 11 = .ok (.iload_n 2, 1) := by decide +kernel
theorem dX6_admit_12 : decode cX6_admit 12 = .ok (.iconst 0, 1) := by decide +kernel
theorem dX6_admit_13 : decode cX6_admit 13 = .ok (.bipush 15, 2) := by decide +kernel
theorem dX6_admit_15 : decode cX6_admit 15 = .ok (.invokestatic 90, 3) := by decide +kernel
theorem dX6_admit_18 : decode cX6_admit 18 = .ok (.ifCond .eq 7, 3) := by decide +kernel
theorem dX6_admit_21 : decode cX6_admit 21 = .ok (.iconst 1, 1) := by decide +kernel
theorem dX6_admit_22 : decode cX6_admit 22 = .ok (.goto 4, 3) := by decide +kernel
theorem dX6_admit_25 : decode cX6_admit 25 = .ok (.iconst 0, 1) := by decide +kernel
theorem dX6_admit_26 : decode cX6_admit 26 = .ok (.istore_n 3, 1) := by decide +kernel
theorem dX6_admit_27 : decode cX6_admit 27 = .ok (.aload_n 0, 1) := by decide +kernel
theorem dX6_admit_28 : decode cX6_admit 28 = .ok (.iload_n 3, 1) := by decide +kernel
theorem dX6_admit_29 : decode cX6_admit 29 = .ok (.ifCond .ne 7, 3) := by decide +kernel
theorem dX6_admit_32 : decode cX6_admit 32 = .ok (.iconst 1, 1) := by decide +kernel
theorem dX6_admit_33 : decode cX6_admit 33 = .ok (.goto 17, 3) := by decide +kernel
theorem dX6_admit_36 : decode cX6_admit 36 = .ok (.aload_n 0, 1) := by decide +kernel
theorem dX6_admit_37 : decode cX6_admit 37 = .ok (.getfield 87, 3) := by decide +kernel
theorem dX6_admit_40 : decode cX6_admit 40 = .ok (.bipush 10, 2) := by decide +kernel
theorem dX6_admit_42 : decode cX6_admit 42 = .ok (.if_icmp .ne 7, 3) := by decide +kernel
theorem dX6_admit_45 : decode cX6_admit 45 = .ok (.iconst 2, 1) := by decide +kernel
theorem dX6_admit_46 : decode cX6_admit 46 = .ok (.goto 4, 3) := by decide +kernel
theorem dX6_admit_49 : decode cX6_admit 49 = .ok (.iconst 0, 1) := by decide +kernel
theorem dX6_admit_50 : decode cX6_admit 50 = .ok (.invokevirtual 97, 3) := by decide +kernel
theorem dX6_admit_53 : decode cX6_admit 53 = .ok (.ifCond .eq 5, 3) := by decide +kernel
theorem dX6_admit_56 : decode cX6_admit 56 = .ok (.iconst 0, 1) := by decide +kernel
theorem dX6_admit_57 : decode cX6_admit 57 = .ok (.ireturn, 1) := by decide +kernel
theorem dX6_admit_58 : decode cX6_admit 58 = .ok (.aload_n 0, 1) := by decide +kernel
theorem dX6_admit_59 : decode cX6_admit 59 = .ok (.getfield 13, 3) := by decide +kernel
theorem dX6_admit_62 : decode cX6_admit 62 = .ok (.aload_n 0, 1) := by decide +kernel
theorem dX6_admit_63 : decode cX6_admit 63 = .ok (.getfield 87, 3) := by decide +kernel
theorem dX6_admit_66 : decode cX6_admit 66 = .ok (.aload_n 0, 1) := by decide +kernel
theorem dX6_admit_67 : decode cX6_admit 67 = .ok (.getfield 101, 3) := by decide +kernel
theorem dX6_admit_70 : decode cX6_admit 70 = .ok (.iastore, 1) := by decide +kernel
theorem dX6_admit_71 : decode cX6_admit 71 = .ok (.aload_n 0, 1) := by decide +kernel
theorem dX6_admit_72 : decode cX6_admit 72 = .ok (.getfield 17, 3) := by decide +kernel
theorem dX6_admit_75 : decode cX6_admit 75 = .ok (.aload_n 0, 1) := by decide +kernel
theorem dX6_admit_76 : decode cX6_admit 76 = .ok (.getfield 87, 3) := by decide +kernel
theorem dX6_admit_79 : decode cX6_admit 79 = .ok (.iload_n 1, 1) := by decide +kernel
theorem dX6_admit_80 : decode cX6_admit 80 = .ok (.iastore, 1) := by decide +kernel
theorem dX6_admit_81 : decode cX6_admit 81 = .ok (.aload_n 0, 1) := by decide +kernel
theorem dX6_admit_82 : decode cX6_admit 82 = .ok (.getfield 20, 3) := by decide +kernel
theorem dX6_admit_85 : decode cX6_admit 85 = .ok (.aload_n 0, 1) := by decide +kernel
theorem dX6_admit_86 : decode cX6_admit 86 = .ok (.getfield 87, 3) := by decide +kernel
theorem dX6_admit_89 : decode cX6_admit 89 = .ok (.iload_n 2, 1) := by decide +kernel
theorem dX6_admit_90 : decode cX6_admit 90 = .ok (.iastore, 1) := by decide +kernel
theorem dX6_admit_91 : decode cX6_admit 91 = .ok (.aload_n 0, 1) := by decide +kernel
theorem dX6_admit_92 : decode cX6_admit 92 = .ok (.getfield 23, 3) := by decide +kernel
theorem dX6_admit_95 : decode cX6_admit 95 = .ok (.aload_n 0, 1) := by decide +kernel
theorem dX6_admit_96 : decode cX6_admit 96 = .ok (.getfield 87, 3) := by decide +kernel
theorem dX6_admit_99 : decode cX6_admit 99 = .ok (.iconst 1, 1) := by decide +kernel
theorem dX6_admit_100 : decode cX6_admit 100 = .ok (.iastore, 1) := by decide +kernel
theorem dX6_admit_101 : decode cX6_admit 101 = .ok (.aload_n 0, 1) := by decide +kernel
theorem dX6_admit_102 : decode cX6_admit 102 = .ok (.getfield 38, 3) := by decide +kernel
theorem dX6_admit_105 : decode cX6_admit 105 = .ok (.aload_n 0, 1) := by decide +kernel
theorem dX6_admit_106 : decode cX6_admit 106 = .ok (.getfield 87, 3) := by decide +kernel
theorem dX6_admit_109 : decode cX6_admit 109 = .ok (.iconst (-1), 1) := by decide +kernel
theorem dX6_admit_110 : decode cX6_admit 110 = .ok (.iastore, 1) := by decide +kernel
theorem dX6_admit_111 : decode cX6_admit 111 = .ok (.aload_n 0, 1) := by decide +kernel
theorem dX6_admit_112 : decode cX6_admit 112 = .ok (.dup, 1) := by decide +kernel
theorem dX6_admit_113 : decode cX6_admit 113 = .ok (.getfield 87, 3) := by decide +kernel
theorem dX6_admit_116 : decode cX6_admit 116 = .ok (.iconst 1, 1) := by decide +kernel
theorem dX6_admit_117 : decode cX6_admit 117 = .ok (.iadd, 1) := by decide +kernel
theorem dX6_admit_118 : decode cX6_admit 118 = .ok (.putfield 87, 3) := by decide +kernel
theorem dX6_admit_121 : decode cX6_admit 121 = .ok (.aload_n 0, 1) := by decide +kernel
theorem dX6_admit_122 : decode cX6_admit 122 = .ok (.getfield 87, 3) := by decide +kernel
theorem dX6_admit_125 : decode cX6_admit 125 = .ok (.iconst 1, 1) := by decide +kernel
theorem dX6_admit_126 : decode cX6_admit 126 = .ok (.isub, 1) := by decide +kernel
theorem dX6_admit_127 : decode cX6_admit 127 = .ok (.ireturn, 1) := by decide +kernel
theorem dX6_gains_0 : decode cX6_gains 0 = .ok (.aload_n 0, 1) := by decide +kernel
theorem dX6_gains_1 : decode cX6_gains 1 = .ok (.getfield 26, 3) := by decide +kernel
theorem dX6_gains_4 : decode cX6_gains 4 = .ok (.iload_n 1, 1) := by decide +kernel
theorem dX6_gains_5 : decode cX6_gains 5 = .ok (.iaload, 1) := by decide +kernel
theorem dX6_gains_6 : decode cX6_gains 6 = .ok (.iconst 5, 1) := by decide +kernel
theorem dX6_gains_7 : decode cX6_gains 7 = .ok (.idiv, 1) := by decide +kernel
theorem dX6_gains_8 : decode cX6_gains 8 = .ok (.aload_n 0, 1) := by decide +kernel
theorem dX6_gains_9 : decode cX6_gains 9 = .ok (.getfield 29, 3) := by decide +kernel
theorem dX6_gains_12 : decode cX6_gains 12 = .ok (.iload_n 1, 1) := by decide +kernel
theorem dX6_gains_13 : decode cX6_gains 13 = .ok (.iaload, 1) := by decide +kernel
theorem dX6_gains_14 : decode cX6_gains 14 = .ok (.iadd, 1) := by decide +kernel
theorem dX6_gains_15 : decode cX6_gains 15 = .ok (.ireturn, 1) := by decide +kernel
theorem dX6_loses_0 : decode cX6_loses 0 = .ok (.iconst 0, 1) := by decide +kernel
theorem dX6_loses_1 : decode cX6_loses 1 = .ok (.istore_n 2, 1) := by decide +kernel
theorem dX6_loses_2 : decode cX6_loses 2 = .ok (.bipush 50, 2) := by decide +kernel
theorem dX6_loses_4 : decode cX6_loses 4 = .ok (.iload_n 1, 1) := by decide +kernel
theorem dX6_loses_5 : decode cX6_loses 5 = .ok (.imul, 1) := by decide +kernel
theorem dX6_loses_6 : decode cX6_loses 6 = .ok (.istore_n 3, 1) := by decide +kernel
theorem dX6_loses_7 : decode cX6_loses 7 = .ok (.iload_n 3, 1) := by decide +kernel
theorem dX6_loses_8 : decode cX6_loses 8 = .ok (.bipush 50, 2) := by decide +kernel
theorem dX6_loses_10 : decode cX6_loses 10 = .ok (.iload_n 1, 1) := by decide +kernel
theorem dX6_loses_11 : decode cX6_loses 11 = .ok (.imul, 1) := by decide +kernel
theorem dX6_loses_12 : decode cX6_loses 12 = .ok (.aload_n 0, 1) := by decide +kernel
theorem dX6_loses_13 : decode cX6_loses 13 = .ok (.getfield 35, 3) := by decide +kernel
theorem dX6_loses_16 : decode cX6_loses 16 = .ok (.iload_n 1, 1) := by decide +kernel
theorem dX6_loses_17 : decode cX6_loses 17 = .ok (.iaload, 1) := by decide +kernel
theorem dX6_loses_18 : decode cX6_loses 18 = .ok (.iadd, 1) := by decide +kernel
theorem dX6_loses_19 : decode cX6_loses 19 = .ok (.if_icmp .ge 31, 3) := by decide +kernel
theorem dX6_loses_22 : decode cX6_loses 22 = .ok (.iload_n 2, 1) := by decide +kernel
theorem dX6_loses_23 : decode cX6_loses 23 = .ok (.aload_n 0, 1) := by decide +kernel
theorem dX6_loses_24 : decode cX6_loses 24 = .ok (.getfield 65, 3) := by decide +kernel
theorem dX6_loses_27 : decode cX6_loses 27 = .ok (.iload_n 3, 1) := by decide +kernel
theorem dX6_loses_28 : decode cX6_loses 28 = .ok (.baload, 1) := by decide +kernel
theorem dX6_loses_29 : decode cX6_loses 29 = .ok (.ifCond .eq 7, 3) := by decide +kernel
theorem dX6_loses_32 : decode cX6_loses 32 = .ok (.iconst 0, 1) := by decide +kernel
theorem dX6_loses_33 : decode cX6_loses 33 = .ok (.goto 9, 3) := by decide +kernel
theorem dX6_loses_36 : decode cX6_loses 36 = .ok (.aload_n 0, 1) := by decide +kernel
theorem dX6_loses_37 : decode cX6_loses 37 = .ok (.getfield 56, 3) := by decide +kernel
theorem dX6_loses_40 : decode cX6_loses 40 = .ok (.iload_n 3, 1) := by decide +kernel
theorem dX6_loses_41 : decode cX6_loses 41 = .ok (.iaload, 1) := by decide +kernel
theorem dX6_loses_42 : decode cX6_loses 42 = .ok (.iadd, 1) := by decide +kernel
theorem dX6_loses_43 : decode cX6_loses 43 = .ok (.istore_n 2, 1) := by decide +kernel
theorem dX6_loses_44 : decode cX6_loses 44 = .ok (.iinc 3 1, 3) := by decide +kernel
theorem dX6_loses_47 : decode cX6_loses 47 = .ok (.goto (-40), 3) := by decide +kernel
theorem dX6_loses_50 : decode cX6_loses 50 = .ok (.iload_n 2, 1) := by decide +kernel
theorem dX6_loses_51 : decode cX6_loses 51 = .ok (.ireturn, 1) := by decide +kernel
set_option maxRecDepth 20000 in
theorem ggX6_releaseOf_X6_gains : GoodIn wsX6_releaseOf wsX6_gains := goodIn_r _ [9, 10, 11, 19, 20, 21, 22, 23, 24, 25, 26, 27, 28, 29, 30, 31, 32, 33, 34, 35, 36, 37, 38, 39, 40, 41, 42, 43, 44, 45, 46] (by decide +kernel) (by decide +kernel)
set_option maxRecDepth 20000 in
theorem gX6_releaseOf_X6_gains : GoodIn wsX6_releaseOf (wsV RX6 104 RX6 yX6_gains wsX6_gains) := goodIn_app (goodIn_of _ (by decide +kernel)) ggX6_releaseOf_X6_gains
set_option maxRecDepth 20000 in
theorem ggX6_releaseOf_X6_loses : GoodIn wsX6_releaseOf wsX6_loses := goodIn_r _ [15, 16, 17, 18, 19, 20, 21, 22, 23, 24, 25, 26, 27, 28, 29, 30, 31, 32, 33, 34, 35, 36, 37, 38, 39, 40, 41, 42, 43, 44, 45, 46] (by decide +kernel) (by decide +kernel)
set_option maxRecDepth 20000 in
theorem gX6_releaseOf_X6_loses : GoodIn wsX6_releaseOf (wsV RX6 108 RX6 yX6_loses wsX6_loses) := goodIn_app (goodIn_of _ (by decide +kernel)) ggX6_releaseOf_X6_loses
theorem dX6_releaseOf_0 : decode cX6_releaseOf 0 = .ok (.aload_n 0, 1) := by decide +kernel
theorem dX6_releaseOf_1 : decode cX6_releaseOf 1 = .ok (.getfield 17, 3) := by decide +kernel
theorem dX6_releaseOf_4 : decode cX6_releaseOf 4 = .ok (.iload_n 1, 1) := by decide +kernel
theorem dX6_releaseOf_5 : decode cX6_releaseOf 5 = .ok (.iaload, 1) := by decide +kernel
theorem dX6_releaseOf_6 : decode cX6_releaseOf 6 = .ok (.iconst 4, 1) := by decide +kernel
theorem dX6_releaseOf_7 : decode cX6_releaseOf 7 = .ok (.idiv, 1) := by decide +kernel
theorem dX6_releaseOf_8 : decode cX6_releaseOf 8 = .ok (.istore_n 2, 1) := by decide +kernel
theorem dX6_releaseOf_9 : decode cX6_releaseOf 9 = .ok (.aload_n 0, 1) := by decide +kernel
theorem dX6_releaseOf_10 : decode cX6_releaseOf 10 = .ok (.iload_n 1, 1) := by decide +kernel
theorem dX6_releaseOf_11 : decode cX6_releaseOf 11 = .ok (.invokevirtual 104, 3) := by decide +kernel
theorem dX6_releaseOf_14 : decode cX6_releaseOf 14 = .ok (.iload_n 2, 1) := by decide +kernel
theorem dX6_releaseOf_15 : decode cX6_releaseOf 15 = .ok (.if_icmp .ge 11, 3) := by decide +kernel
theorem dX6_releaseOf_18 : decode cX6_releaseOf 18 = .ok (.aload_n 0, 1) := by decide +kernel
theorem dX6_releaseOf_19 : decode cX6_releaseOf 19 = .ok (.iload_n 1, 1) := by decide +kernel
theorem dX6_releaseOf_20 : decode cX6_releaseOf 20 = .ok (.invokevirtual 104, 3) := by decide +kernel
theorem dX6_releaseOf_23 : decode cX6_releaseOf 23 = .ok (.goto 4, 3) := by decide +kernel
theorem dX6_releaseOf_26 : decode cX6_releaseOf 26 = .ok (.iload_n 2, 1) := by decide +kernel
theorem dX6_releaseOf_27 : decode cX6_releaseOf 27 = .ok (.istore_n 3, 1) := by decide +kernel
theorem dX6_releaseOf_28 : decode cX6_releaseOf 28 = .ok (.aload_n 0, 1) := by decide +kernel
theorem dX6_releaseOf_29 : decode cX6_releaseOf 29 = .ok (.getfield 7, 3) := by decide +kernel
theorem dX6_releaseOf_32 : decode cX6_releaseOf 32 = .ok (.iload_n 1, 1) := by decide +kernel
theorem dX6_releaseOf_33 : decode cX6_releaseOf 33 = .ok (.baload, 1) := by decide +kernel
theorem dX6_releaseOf_34 : decode cX6_releaseOf 34 = .ok (.ifCond .eq 12, 3) := by decide +kernel
theorem dX6_releaseOf_37 : decode cX6_releaseOf 37 = .ok (.aload_n 0, 1) := by decide +kernel
theorem dX6_releaseOf_38 : decode cX6_releaseOf 38 = .ok (.getfield 41, 3) := by decide +kernel
theorem dX6_releaseOf_41 : decode cX6_releaseOf 41 = .ok (.iload_n 1, 1) := by decide +kernel
theorem dX6_releaseOf_42 : decode cX6_releaseOf 42 = .ok (.iaload, 1) := by decide +kernel
theorem dX6_releaseOf_43 : decode cX6_releaseOf 43 = .ok (.goto 24, 3) := by decide +kernel
theorem dX6_releaseOf_46 : decode cX6_releaseOf 46 = .ok (.aload_n 0, 1) := by decide +kernel
theorem dX6_releaseOf_47 : decode cX6_releaseOf 47 = .ok (.getfield 13, 3) := by decide +kernel
theorem dX6_releaseOf_50 : decode cX6_releaseOf 50 = .ok (.iload_n 1, 1) := by decide +kernel
theorem dX6_releaseOf_51 : decode cX6_releaseOf 51 = .ok (.iaload, 1) := by decide +kernel
theorem dX6_releaseOf_52 : decode cX6_releaseOf 52 = .ok (.aload_n 0, 1) := by decide +kernel
theorem dX6_releaseOf_53 : decode cX6_releaseOf 53 = .ok (.getfield 17, 3) := by decide +kernel
theorem dX6_releaseOf_56 : decode cX6_releaseOf 56 = .ok (.iload_n 1, 1) := by decide +kernel
theorem dX6_releaseOf_57 : decode cX6_releaseOf 57 = .ok (.iaload, 1) := by decide +kernel
theorem dX6_releaseOf_58 : decode cX6_releaseOf 58 = .ok (.iadd, 1) := by decide +kernel
theorem dX6_releaseOf_59 : decode cX6_releaseOf 59 = .ok (.iload_n 3, 1) := by decide +kernel
theorem dX6_releaseOf_60 : decode cX6_releaseOf 60 = .ok (.isub, 1) := by decide +kernel
theorem dX6_releaseOf_61 : decode cX6_releaseOf 61 = .ok (.aload_n 0, 1) := by decide +kernel
theorem dX6_releaseOf_62 : decode cX6_releaseOf 62 = .ok (.iload_n 1, 1) := by decide +kernel
theorem dX6_releaseOf_63 : decode cX6_releaseOf 63 = .ok (.invokevirtual 108, 3) := by decide +kernel
theorem dX6_releaseOf_66 : decode cX6_releaseOf 66 = .ok (.iadd, 1) := by decide +kernel
theorem dX6_releaseOf_67 : decode cX6_releaseOf 67 = .ok (.ireturn, 1) := by decide +kernel
theorem dX6_raises_0 : decode cX6_raises 0 = .ok (.aload_n 0, 1) := by decide +kernel
theorem dX6_raises_1 : decode cX6_raises 1 = .ok (.getfield 23, 3) := by decide +kernel
theorem dX6_raises_4 : decode cX6_raises 4 = .ok (.iload_n 1, 1) := by decide +kernel
theorem dX6_raises_5 : decode cX6_raises 5 = .ok (.dup2, 1) := by decide +kernel
theorem dX6_raises_6 : decode cX6_raises 6 = .ok (.iaload, 1) := by decide +kernel
theorem dX6_raises_7 : decode cX6_raises 7 = .ok (.aload_n 0, 1) := by decide +kernel
theorem dX6_raises_8 : decode cX6_raises 8 = .ok (.getfield 23, 3) := by decide +kernel
theorem dX6_raises_11 : decode cX6_raises 11 = .ok (.iload_n 1, 1) := by decide +kernel
theorem dX6_raises_12 : decode cX6_raises 12 = .ok (.iaload, 1) := by decide +kernel
theorem dX6_raises_13 : decode cX6_raises 13 = .ok (.iconst 2, 1) := by decide +kernel
theorem dX6_raises_14 : decode cX6_raises 14 = .ok (.if_icmp .ge 7, 3) := by decide +kernel
theorem dX6_raises_17 : decode cX6_raises 17 = .ok (.iconst 1, 1) := by decide +kernel
theorem dX6_raises_18 : decode cX6_raises 18 = .ok (.goto 4, 3) := by decide +kernel
theorem dX6_raises_21 : decode cX6_raises 21 = .ok (.iconst 0, 1) := by decide +kernel
theorem dX6_raises_22 : decode cX6_raises 22 = .ok (.iadd, 1) := by decide +kernel
theorem dX6_raises_23 : decode cX6_raises 23 = .ok (.iastore, 1) := by decide +kernel
theorem dX6_raises_24 : decode cX6_raises 24 = .ok (.return_, 1) := by decide +kernel
set_option maxRecDepth 20000 in
theorem ggX6_course_X6_isPerson : GoodIn wsX6_course wsX6_isPerson := goodIn_r _ [9, 10, 11, 12, 8, 13, 43, 44, 45, 46, 47, 48, 49, 50, 51, 52, 53, 54, 55, 56, 57, 58, 59, 60, 61, 62, 63, 64, 65, 66, 67, 68, 69, 70] (by decide +kernel) (by decide +kernel)
set_option maxRecDepth 20000 in
theorem gX6_course_X6_isPerson : GoodIn wsX6_course (wsV RX6 111 RX6 yX6_isPerson wsX6_isPerson) := goodIn_app (goodIn_of _ (by decide +kernel)) ggX6_course_X6_isPerson
set_option maxRecDepth 20000 in
theorem ggX6_course_X6_lies : GoodIn wsX6_course wsX6_lies := goodIn_r _ [13] (by decide +kernel) (by decide +kernel)
set_option maxRecDepth 20000 in
theorem gX6_course_X6_lies : GoodIn wsX6_course (va_wsS RX6 90 yX6_lies wsX6_lies) := goodIn_app (goodIn_of _ (by decide +kernel)) ggX6_course_X6_lies
set_option maxRecDepth 20000 in
theorem ggX6_course_X6_fails : GoodIn wsX6_course wsX6_fails := goodIn_r _ [17, 18, 43, 44, 45, 46, 47, 48, 49, 50, 51, 52, 53, 54, 55, 56, 57, 58, 59, 60, 61, 62, 63, 64, 65, 66, 67, 68, 69, 70] (by decide +kernel) (by decide +kernel)
set_option maxRecDepth 20000 in
theorem gX6_course_X6_fails : GoodIn wsX6_course (wsV RX6 97 RX6 yX6_fails wsX6_fails) := goodIn_app (goodIn_of _ (by decide +kernel)) ggX6_course_X6_fails
set_option maxRecDepth 20000 in
theorem ggX6_course_X6_raises : GoodIn wsX6_course wsX6_raises := goodIn_r _ [22, 23, 43, 44, 45, 46, 47, 48, 49, 50, 51, 52, 53, 54, 55, 56, 57, 58, 59, 60, 61, 62, 63, 64, 65, 66, 67, 68, 69, 70] (by decide +kernel) (by decide +kernel)
set_option maxRecDepth 20000 in
theorem gX6_course_X6_raises : GoodIn wsX6_course (wsV RX6 114 RX6 yX6_raises wsX6_raises) := goodIn_app (goodIn_of _ (by decide +kernel)) ggX6_course_X6_raises
set_option maxRecDepth 20000 in
theorem ggX6_course_X6_releaseOf : GoodIn wsX6_course wsX6_releaseOf := goodIn_r _ [27, 28, 1, 29, 30, 31, 32, 33, 8, 34, 35, 4, 36, 37, 38, 39, 40, 41, 42, 43, 44, 45, 46, 47, 48, 49, 50, 51, 52, 53, 54, 55, 56, 57, 58, 59, 60, 61, 62, 63, 64, 65, 66, 67, 68, 69, 70] (by decide +kernel) (by decide +kernel)
set_option maxRecDepth 20000 in
theorem gX6_course_X6_releaseOf : GoodIn wsX6_course (wsV RX6 118 RX6 yX6_releaseOf wsX6_releaseOf) := goodIn_app (goodIn_of _ (by decide +kernel)) ggX6_course_X6_releaseOf
theorem dX6_course_0 : decode cX6_course 0 = .ok (.aload_n 0, 1) := by decide +kernel
theorem dX6_course_1 : decode cX6_course 1 = .ok (.iload_n 1, 1) := by decide +kernel
theorem dX6_course_2 : decode cX6_course 2 = .ok (.invokevirtual 111, 3) := by decide +kernel
theorem dX6_course_5 : decode cX6_course 5 = .ok (.ifCond .eq 16, 3) := by decide +kernel
theorem dX6_course_8 : decode cX6_course 8 = .ok (.iload_n 2, 1) := by decide +kernel
theorem dX6_course_9 : decode cX6_course 9 = .ok (.iconst 0, 1) := by decide +kernel
theorem dX6_course_10 : decode cX6_course 10 = .ok (.iconst 3, 1) := by decide +kernel
theorem dX6_course_11 : decode cX6_course 11 = .ok (.invokestatic 90, 3) := by decide +kernel
theorem dX6_course_14 : decode cX6_course 14 = .ok (.ifCond .eq 7, 3) := by decide +kernel
theorem dX6_course_17 : decode cX6_course 17 = .ok (.iconst 1, 1) := by decide +kernel
theorem dX6_course_18 : decode cX6_course 18 = .ok (.goto 4, 3) := by decide +kernel
theorem dX6_course_21 : decode cX6_course 21 = .ok (.iconst 0, 1) := by decide +kernel
theorem dX6_course_22 : decode cX6_course 22 = .ok (.istore 4, 2) := by decide +kernel
theorem dX6_course_24 : decode cX6_course 24 = .ok (.aload_n 0, 1) := by decide +kernel
theorem dX6_course_25 : decode cX6_course 25 = .ok (.iload 4, 2) := by decide +kernel
theorem dX6_course_27 : decode cX6_course 27 = .ok (.ifCond .ne 7, 3) := by decide +kernel
theorem dX6_course_30 : decode cX6_course 30 = .ok (.iconst 1, 1) := by decide +kernel
theorem dX6_course_31 : decode cX6_course 31 = .ok (.goto 42, 3) := by decide +kernel
theorem dX6_course_34 : decode cX6_course 34 = .ok (.iload_n 3, 1) := by decide +kernel
theorem dX6_course_35 : decode cX6_course 35 = .ok (.iconst 0, 1) := by decide +kernel
theorem dX6_course_36 : decode cX6_course 36 = .ok (.bipush 100, 2) := by decide +kernel
theorem dX6_course_38 : decode cX6_course 38 = .ok (.invokestatic 90, 3) := by decide +kernel
theorem dX6_course_41 : decode cX6_course 41 = .ok (.ifCond .ne 7, 3) := by decide +kernel
theorem dX6_course_44 : decode cX6_course 44 = .ok (.iconst 2, 1) := by decide +kernel
theorem dX6_course_45 : decode cX6_course 45 = .ok (.goto 28, 3) := by decide +kernel
theorem dX6_course_48 : decode cX6_course 48 = .ok (.aload_n 0, 1) := by decide +kernel
theorem dX6_course_49 : decode cX6_course 49 = .ok (.getfield 7, 3) := by decide +kernel
theorem dX6_course_52 : decode cX6_course 52 = .ok (.iload_n 1, 1) := by decide +kernel
theorem dX6_course_53 : decode cX6_course 53 = .ok (.baload, 1) := by decide +kernel
theorem dX6_course_54 : decode cX6_course 54 = .ok (.ifCond .ne 14, 3) := by decide +kernel
theorem dX6_course_57 : decode cX6_course 57 = .ok (.aload_n 0, 1) := by decide +kernel
theorem dX6_course_58 : decode cX6_course 58 = .ok (.getfield 32, 3) := by decide +kernel
theorem dX6_course_61 : decode cX6_course 61 = .ok (.iload_n 1, 1) := by decide +kernel
theorem dX6_course_62 : decode cX6_course 62 = .ok (.iaload, 1) := by decide +kernel
theorem dX6_course_63 : decode cX6_course 63 = .ok (.bipush 50, 2) := by decide +kernel
theorem dX6_course_65 : decode cX6_course 65 = .ok (.if_icmp .ne 7, 3) := by decide +kernel
theorem dX6_course_68 : decode cX6_course 68 = .ok (.iconst 3, 1) := by decide +kernel
theorem dX6_course_69 : decode cX6_course 69 = .ok (.goto 4, 3) := by decide +kernel
theorem dX6_course_72 : decode cX6_course 72 = .ok (.iconst 0, 1) := by decide +kernel
theorem dX6_course_73 : decode cX6_course 73 = .ok (.invokevirtual 97, 3) := by decide +kernel
theorem dX6_course_76 : decode cX6_course 76 = .ok (.ifCond .eq 5, 3) := by decide +kernel
theorem dX6_course_79 : decode cX6_course 79 = .ok (.iconst 0, 1) := by decide +kernel
theorem dX6_course_80 : decode cX6_course 80 = .ok (.ireturn, 1) := by decide +kernel
theorem dX6_course_81 : decode cX6_course 81 = .ok (.aload_n 0, 1) := by decide +kernel
theorem dX6_course_82 : decode cX6_course 82 = .ok (.getfield 20, 3) := by decide +kernel
theorem dX6_course_85 : decode cX6_course 85 = .ok (.iload_n 1, 1) := by decide +kernel
theorem dX6_course_86 : decode cX6_course 86 = .ok (.dup2, 1) := by decide +kernel
theorem dX6_course_87 : decode cX6_course 87 = .ok (.iaload, 1) := by decide +kernel
theorem dX6_course_88 : decode cX6_course 88 = .ok (.iconst 1, 1) := by decide +kernel
theorem dX6_course_89 : decode cX6_course 89 = .ok (.iload_n 2, 1) := by decide +kernel
theorem dX6_course_90 : decode cX6_course 90 = .ok (.ishl, 1) := by decide +kernel
theorem dX6_course_91 : decode cX6_course 91 = .ok (.ior, 1) := by decide +kernel
theorem dX6_course_92 : decode cX6_course 92 = .ok (.iastore, 1) := by decide +kernel
theorem dX6_course_93 : decode cX6_course 93 = .ok (.aload_n 0, 1) := by decide +kernel
theorem dX6_course_94 : decode cX6_course 94 = .ok (.getfield 29, 3) := by decide +kernel
theorem dX6_course_97 : decode cX6_course 97 = .ok (.iload_n 1, 1) := by decide +kernel
theorem dX6_course_98 : decode cX6_course 98 = .ok (.dup2, 1) := by decide +kernel
theorem dX6_course_99 : decode cX6_course 99 = .ok (.iaload, 1) := by decide +kernel
theorem dX6_course_100 : decode cX6_course 100 = .ok (.iload_n 3, 1) := by decide +kernel
theorem dX6_course_101 : decode cX6_course 101 = .ok (.iadd, 1) := by decide +kernel
theorem dX6_course_102 : decode cX6_course 102 = .ok (.iastore, 1) := by decide +kernel
theorem dX6_course_103 : decode cX6_course 103 = .ok (.aload_n 0, 1) := by decide +kernel
theorem dX6_course_104 : decode cX6_course 104 = .ok (.getfield 32, 3) := by decide +kernel
theorem dX6_course_107 : decode cX6_course 107 = .ok (.iload_n 1, 1) := by decide +kernel
theorem dX6_course_108 : decode cX6_course 108 = .ok (.dup2, 1) := by decide +kernel
theorem dX6_course_109 : decode cX6_course 109 = .ok (.iaload, 1) := by decide +kernel
theorem dX6_course_110 : decode cX6_course 110 = .ok (.iconst 1, 1) := by decide +kernel
theorem dX6_course_111 : decode cX6_course 111 = .ok (.iadd, 1) := by decide +kernel
theorem dX6_course_112 : decode cX6_course 112 = .ok (.iastore, 1) := by decide +kernel
theorem dX6_course_113 : decode cX6_course 113 = .ok (.aload_n 0, 1) := by decide +kernel
theorem dX6_course_114 : decode cX6_course 114 = .ok (.iload_n 1, 1) := by decide +kernel
theorem dX6_course_115 : decode cX6_course 115 = .ok (.invokevirtual 114, 3) := by decide +kernel
theorem dX6_course_118 : decode cX6_course 118 = .ok (.aload_n 0, 1) := by decide +kernel
theorem dX6_course_119 : decode cX6_course 119 = .ok (.iload_n 1, 1) := by decide +kernel
theorem dX6_course_120 : decode cX6_course 120 = .ok (.invokevirtual 118, 3) := by decide +kernel
theorem dX6_course_123 : decode cX6_course 123 = .ok (.ireturn, 1) := by decide +kernel
set_option maxRecDepth 20000 in
theorem ggX6_offence_X6_isPerson : GoodIn wsX6_offence wsX6_isPerson := goodIn_r _ [15, 16, 17, 18, 14, 19, 25, 26, 27, 28, 29, 30, 31, 32, 33, 34, 35, 36, 37, 38, 39, 40, 41, 42, 43, 44, 45, 46, 47, 48, 49, 50, 51, 52] (by decide +kernel) (by decide +kernel)
set_option maxRecDepth 20000 in
theorem gX6_offence_X6_isPerson : GoodIn wsX6_offence (wsV RX6 111 RX6 yX6_isPerson wsX6_isPerson) := goodIn_app (goodIn_of _ (by decide +kernel)) ggX6_offence_X6_isPerson
set_option maxRecDepth 20000 in
theorem ggX6_offence_X6_lies : GoodIn wsX6_offence wsX6_lies := goodIn_r _ [19] (by decide +kernel) (by decide +kernel)
set_option maxRecDepth 20000 in
theorem gX6_offence_X6_lies : GoodIn wsX6_offence (va_wsS RX6 90 yX6_lies wsX6_lies) := goodIn_app (goodIn_of _ (by decide +kernel)) ggX6_offence_X6_lies
set_option maxRecDepth 20000 in
theorem ggX6_offence_X6_fails : GoodIn wsX6_offence wsX6_fails := goodIn_r _ [23, 24, 25, 26, 27, 28, 29, 30, 31, 32, 33, 34, 35, 36, 37, 38, 39, 40, 41, 42, 43, 44, 45, 46, 47, 48, 49, 50, 51, 52] (by decide +kernel) (by decide +kernel)
set_option maxRecDepth 20000 in
theorem gX6_offence_X6_fails : GoodIn wsX6_offence (wsV RX6 97 RX6 yX6_fails wsX6_fails) := goodIn_app (goodIn_of _ (by decide +kernel)) ggX6_offence_X6_fails
theorem dX6_offence_0 : decode cX6_offence 0 = .ok (.aload_n 0, 1) := by decide +kernel
theorem dX6_offence_1 : decode cX6_offence 1 = .ok (.aload_n 0, 1) := by decide +kernel
theorem dX6_offence_2 : decode cX6_offence 2 = .ok (.iload_n 1, 1) := by decide +kernel
theorem dX6_offence_3 : decode cX6_offence 3 = .ok (.invokevirtual 111, 3) := by decide +kernel
theorem dX6_offence_6 : decode cX6_offence 6 = .ok (.ifCond .ne 7, 3) := by decide +kernel
theorem dX6_offence_9 : decode cX6_offence 9 = .ok (.iconst 1, 1) := by decide +kernel
theorem dX6_offence_10 : decode cX6_offence 10 = .ok (.goto 42, 3) := by decide +kernel
theorem dX6_offence_13 : decode cX6_offence 13 = .ok (.iload_n 2, 1) := by decide +kernel
theorem dX6_offence_14 : decode cX6_offence 14 = .ok (.iconst 0, 1) := by decide +kernel
theorem dX6_offence_15 : decode cX6_offence 15 = .ok (.bipush 100, 2) := by decide +kernel
theorem dX6_offence_17 : decode cX6_offence 17 = .ok (.invokestatic 90, 3) := by decide +kernel
theorem dX6_offence_20 : decode cX6_offence 20 = .ok (.ifCond .ne 7, 3) := by decide +kernel
theorem dX6_offence_23 : decode cX6_offence 23 = .ok (.iconst 2, 1) := by decide +kernel
theorem dX6_offence_24 : decode cX6_offence 24 = .ok (.goto 28, 3) := by decide +kernel
theorem dX6_offence_27 : decode cX6_offence 27 = .ok (.aload_n 0, 1) := by decide +kernel
theorem dX6_offence_28 : decode cX6_offence 28 = .ok (.getfield 7, 3) := by decide +kernel
theorem dX6_offence_31 : decode cX6_offence 31 = .ok (.iload_n 1, 1) := by decide +kernel
theorem dX6_offence_32 : decode cX6_offence 32 = .ok (.baload, 1) := by decide +kernel
theorem dX6_offence_33 : decode cX6_offence 33 = .ok (.ifCond .ne 14, 3) := by decide +kernel
theorem dX6_offence_36 : decode cX6_offence 36 = .ok (.aload_n 0, 1) := by decide +kernel
theorem dX6_offence_37 : decode cX6_offence 37 = .ok (.getfield 32, 3) := by decide +kernel
theorem dX6_offence_40 : decode cX6_offence 40 = .ok (.iload_n 1, 1) := by decide +kernel
theorem dX6_offence_41 : decode cX6_offence 41 = .ok (.iaload, 1) := by decide +kernel
theorem dX6_offence_42 : decode cX6_offence 42 = .ok (.bipush 50, 2) := by decide +kernel
theorem dX6_offence_44 : decode cX6_offence 44 = .ok (.if_icmp .ne 7, 3) := by decide +kernel
theorem dX6_offence_47 : decode cX6_offence 47 = .ok (.iconst 3, 1) := by decide +kernel
theorem dX6_offence_48 : decode cX6_offence 48 = .ok (.goto 4, 3) := by decide +kernel
theorem dX6_offence_51 : decode cX6_offence 51 = .ok (.iconst 0, 1) := by decide +kernel
theorem dX6_offence_52 : decode cX6_offence 52 = .ok (.invokevirtual 97, 3) := by decide +kernel
theorem dX6_offence_55 : decode cX6_offence 55 = .ok (.ifCond .eq 5, 3) := by decide +kernel
theorem dX6_offence_58 : decode cX6_offence 58 = .ok (.iconst 0, 1) := by decide +kernel
theorem dX6_offence_59 : decode cX6_offence 59 = .ok (.ireturn, 1) := by decide +kernel
theorem dX6_offence_60 : decode cX6_offence 60 = .ok (.bipush 50, 2) := by decide +kernel
theorem dX6_offence_62 : decode cX6_offence 62 = .ok (.iload_n 1, 1) := by decide +kernel
theorem dX6_offence_63 : decode cX6_offence 63 = .ok (.imul, 1) := by decide +kernel
theorem dX6_offence_64 : decode cX6_offence 64 = .ok (.aload_n 0, 1) := by decide +kernel
theorem dX6_offence_65 : decode cX6_offence 65 = .ok (.getfield 35, 3) := by decide +kernel
theorem dX6_offence_68 : decode cX6_offence 68 = .ok (.iload_n 1, 1) := by decide +kernel
theorem dX6_offence_69 : decode cX6_offence 69 = .ok (.iaload, 1) := by decide +kernel
theorem dX6_offence_70 : decode cX6_offence 70 = .ok (.iadd, 1) := by decide +kernel
theorem dX6_offence_71 : decode cX6_offence 71 = .ok (.istore_n 3, 1) := by decide +kernel
theorem dX6_offence_72 : decode cX6_offence 72 = .ok (.aload_n 0, 1) := by decide +kernel
theorem dX6_offence_73 : decode cX6_offence 73 = .ok (.getfield 56, 3) := by decide +kernel
theorem dX6_offence_76 : decode cX6_offence 76 = .ok (.iload_n 3, 1) := by decide +kernel
theorem dX6_offence_77 : decode cX6_offence 77 = .ok (.iload_n 2, 1) := by decide +kernel
theorem dX6_offence_78 : decode cX6_offence 78 = .ok (.iastore, 1) := by decide +kernel
theorem dX6_offence_79 : decode cX6_offence 79 = .ok (.aload_n 0, 1) := by decide +kernel
theorem dX6_offence_80 : decode cX6_offence 80 = .ok (.getfield 59, 3) := by decide +kernel
theorem dX6_offence_83 : decode cX6_offence 83 = .ok (.iload_n 3, 1) := by decide +kernel
theorem dX6_offence_84 : decode cX6_offence 84 = .ok (.aload_n 0, 1) := by decide +kernel
theorem dX6_offence_85 : decode cX6_offence 85 = .ok (.getfield 101, 3) := by decide +kernel
theorem dX6_offence_88 : decode cX6_offence 88 = .ok (.iastore, 1) := by decide +kernel
theorem dX6_offence_89 : decode cX6_offence 89 = .ok (.aload_n 0, 1) := by decide +kernel
theorem dX6_offence_90 : decode cX6_offence 90 = .ok (.getfield 62, 3) := by decide +kernel
theorem dX6_offence_93 : decode cX6_offence 93 = .ok (.iload_n 3, 1) := by decide +kernel
theorem dX6_offence_94 : decode cX6_offence 94 = .ok (.aload_n 0, 1) := by decide +kernel
theorem dX6_offence_95 : decode cX6_offence 95 = .ok (.getfield 23, 3) := by decide +kernel
theorem dX6_offence_98 : decode cX6_offence 98 = .ok (.iload_n 1, 1) := by decide +kernel
theorem dX6_offence_99 : decode cX6_offence 99 = .ok (.iaload, 1) := by decide +kernel
theorem dX6_offence_100 : decode cX6_offence 100 = .ok (.ifCond .le 7, 3) := by decide +kernel
theorem dX6_offence_103 : decode cX6_offence 103 = .ok (.iconst 1, 1) := by decide +kernel
theorem dX6_offence_104 : decode cX6_offence 104 = .ok (.goto 4, 3) := by decide +kernel
theorem dX6_offence_107 : decode cX6_offence 107 = .ok (.iconst 0, 1) := by decide +kernel
theorem dX6_offence_108 : decode cX6_offence 108 = .ok (.bastore, 1) := by decide +kernel
theorem dX6_offence_109 : decode cX6_offence 109 = .ok (.aload_n 0, 1) := by decide +kernel
theorem dX6_offence_110 : decode cX6_offence 110 = .ok (.getfield 65, 3) := by decide +kernel
theorem dX6_offence_113 : decode cX6_offence 113 = .ok (.iload_n 3, 1) := by decide +kernel
theorem dX6_offence_114 : decode cX6_offence 114 = .ok (.iconst 0, 1) := by decide +kernel
theorem dX6_offence_115 : decode cX6_offence 115 = .ok (.bastore, 1) := by decide +kernel
theorem dX6_offence_116 : decode cX6_offence 116 = .ok (.aload_n 0, 1) := by decide +kernel
theorem dX6_offence_117 : decode cX6_offence 117 = .ok (.getfield 23, 3) := by decide +kernel
theorem dX6_offence_120 : decode cX6_offence 120 = .ok (.iload_n 1, 1) := by decide +kernel
theorem dX6_offence_121 : decode cX6_offence 121 = .ok (.dup2, 1) := by decide +kernel
theorem dX6_offence_122 : decode cX6_offence 122 = .ok (.iaload, 1) := by decide +kernel
theorem dX6_offence_123 : decode cX6_offence 123 = .ok (.aload_n 0, 1) := by decide +kernel
theorem dX6_offence_124 : decode cX6_offence 124 = .ok (.getfield 62, 3) := by decide +kernel
theorem dX6_offence_127 : decode cX6_offence 127 = .ok (.iload_n 3, 1) := by decide +kernel
theorem dX6_offence_128 : decode cX6_offence 128 = .ok (.baload, 1) := by decide +kernel
theorem dX6_offence_129 : decode cX6_offence 129 = .ok (.ifCond .eq 7, 3) := by decide +kernel
theorem dX6_offence_132 : decode cX6_offence 132 = .ok (.iconst 1, 1) := by decide +kernel
theorem dX6_offence_133 : decode cX6_offence 133 = .ok (.goto 4, 3) := by decide +kernel
theorem dX6_offence_136 : decode cX6_offence 136 = .ok (.iconst 0, 1) := by decide +kernel
theorem dX6_offence_137 : decode cX6_offence 137 = .ok (.isub, 1) := by decide +kernel
theorem dX6_offence_138 : decode cX6_offence 138 = .ok (.iastore, 1) := by decide +kernel
theorem dX6_offence_139 : decode cX6_offence 139 = .ok (.aload_n 0, 1) := by decide +kernel
theorem dX6_offence_140 : decode cX6_offence 140 = .ok (.getfield 38, 3) := by decide +kernel
theorem dX6_offence_143 : decode cX6_offence 143 = .ok (.iload_n 1, 1) := by decide +kernel
theorem dX6_offence_144 : decode cX6_offence 144 = .ok (.iconst (-1), 1) := by decide +kernel
theorem dX6_offence_145 : decode cX6_offence 145 = .ok (.iastore, 1) := by decide +kernel
theorem dX6_offence_146 : decode cX6_offence 146 = .ok (.aload_n 0, 1) := by decide +kernel
theorem dX6_offence_147 : decode cX6_offence 147 = .ok (.getfield 32, 3) := by decide +kernel
theorem dX6_offence_150 : decode cX6_offence 150 = .ok (.iload_n 1, 1) := by decide +kernel
theorem dX6_offence_151 : decode cX6_offence 151 = .ok (.dup2, 1) := by decide +kernel
theorem dX6_offence_152 : decode cX6_offence 152 = .ok (.iaload, 1) := by decide +kernel
theorem dX6_offence_153 : decode cX6_offence 153 = .ok (.iconst 1, 1) := by decide +kernel
theorem dX6_offence_154 : decode cX6_offence 154 = .ok (.iadd, 1) := by decide +kernel
theorem dX6_offence_155 : decode cX6_offence 155 = .ok (.iastore, 1) := by decide +kernel
theorem dX6_offence_156 : decode cX6_offence 156 = .ok (.aload_n 0, 1) := by decide +kernel
theorem dX6_offence_157 : decode cX6_offence 157 = .ok (.getfield 35, 3) := by decide +kernel
theorem dX6_offence_160 : decode cX6_offence 160 = .ok (.iload_n 1, 1) := by decide +kernel
theorem dX6_offence_161 : decode cX6_offence 161 = .ok (.dup2, 1) := by decide +kernel
theorem dX6_offence_162 : decode cX6_offence 162 = .ok (.iaload, 1) := by decide +kernel
theorem dX6_offence_163 : decode cX6_offence 163 = .ok (.iconst 1, 1) := by decide +kernel
theorem dX6_offence_164 : decode cX6_offence 164 = .ok (.iadd, 1) := by decide +kernel
theorem dX6_offence_165 : decode cX6_offence 165 = .ok (.iastore, 1) := by decide +kernel
theorem dX6_offence_166 : decode cX6_offence 166 = .ok (.aload_n 0, 1) := by decide +kernel
theorem dX6_offence_167 : decode cX6_offence 167 = .ok (.getfield 35, 3) := by decide +kernel
theorem dX6_offence_170 : decode cX6_offence 170 = .ok (.iload_n 1, 1) := by decide +kernel
theorem dX6_offence_171 : decode cX6_offence 171 = .ok (.iaload, 1) := by decide +kernel
theorem dX6_offence_172 : decode cX6_offence 172 = .ok (.iconst 1, 1) := by decide +kernel
theorem dX6_offence_173 : decode cX6_offence 173 = .ok (.isub, 1) := by decide +kernel
theorem dX6_offence_174 : decode cX6_offence 174 = .ok (.ireturn, 1) := by decide +kernel
set_option maxRecDepth 20000 in
theorem ggX6_appeal_X6_isPerson : GoodIn wsX6_appeal wsX6_isPerson := goodIn_r _ [9, 10, 11, 12, 8, 13, 42, 43, 44, 45, 46, 47, 48, 49, 50, 51, 52, 53, 54, 55, 56, 57, 58, 59, 60, 61, 62, 63, 64, 65, 66, 67, 68, 69] (by decide +kernel) (by decide +kernel)
set_option maxRecDepth 20000 in
theorem gX6_appeal_X6_isPerson : GoodIn wsX6_appeal (wsV RX6 111 RX6 yX6_isPerson wsX6_isPerson) := goodIn_app (goodIn_of _ (by decide +kernel)) ggX6_appeal_X6_isPerson
set_option maxRecDepth 20000 in
theorem ggX6_appeal_X6_lies : GoodIn wsX6_appeal wsX6_lies := goodIn_r _ [13] (by decide +kernel) (by decide +kernel)
set_option maxRecDepth 20000 in
theorem gX6_appeal_X6_lies : GoodIn wsX6_appeal (va_wsS RX6 90 yX6_lies wsX6_lies) := goodIn_app (goodIn_of _ (by decide +kernel)) ggX6_appeal_X6_lies
set_option maxRecDepth 20000 in
theorem ggX6_appeal_X6_fails : GoodIn wsX6_appeal wsX6_fails := goodIn_r _ [17, 18, 42, 43, 44, 45, 46, 47, 48, 49, 50, 51, 52, 53, 54, 55, 56, 57, 58, 59, 60, 61, 62, 63, 64, 65, 66, 67, 68, 69] (by decide +kernel) (by decide +kernel)
set_option maxRecDepth 20000 in
theorem gX6_appeal_X6_fails : GoodIn wsX6_appeal (wsV RX6 97 RX6 yX6_fails wsX6_fails) := goodIn_app (goodIn_of _ (by decide +kernel)) ggX6_appeal_X6_fails
set_option maxRecDepth 20000 in
theorem ggX6_appeal_X6_raises : GoodIn wsX6_appeal wsX6_raises := goodIn_r _ [22, 23, 42, 43, 44, 45, 46, 47, 48, 49, 50, 51, 52, 53, 54, 55, 56, 57, 58, 59, 60, 61, 62, 63, 64, 65, 66, 67, 68, 69] (by decide +kernel) (by decide +kernel)
set_option maxRecDepth 20000 in
theorem gX6_appeal_X6_raises : GoodIn wsX6_appeal (wsV RX6 114 RX6 yX6_raises wsX6_raises) := goodIn_app (goodIn_of _ (by decide +kernel)) ggX6_appeal_X6_raises
set_option maxRecDepth 20000 in
theorem ggX6_appeal_X6_releaseOf : GoodIn wsX6_appeal wsX6_releaseOf := goodIn_r _ [27, 28, 2, 29, 30, 31, 32, 33, 8, 34, 35, 36, 37, 38, 39, 40, 1, 3, 41, 42, 43, 44, 45, 46, 47, 48, 49, 50, 51, 52, 53, 54, 55, 56, 57, 58, 59, 60, 61, 62, 63, 64, 65, 66, 67, 68, 69] (by decide +kernel) (by decide +kernel)
set_option maxRecDepth 20000 in
theorem gX6_appeal_X6_releaseOf : GoodIn wsX6_appeal (wsV RX6 118 RX6 yX6_releaseOf wsX6_releaseOf) := goodIn_app (goodIn_of _ (by decide +kernel)) ggX6_appeal_X6_releaseOf
theorem dX6_appeal_0 : decode cX6_appeal 0 = .ok (.aload_n 0, 1) := by decide +kernel
theorem dX6_appeal_1 : decode cX6_appeal 1 = .ok (.iload_n 1, 1) := by decide +kernel
theorem dX6_appeal_2 : decode cX6_appeal 2 = .ok (.invokevirtual 111, 3) := by decide +kernel
theorem dX6_appeal_5 : decode cX6_appeal 5 = .ok (.ifCond .eq 23, 3) := by decide +kernel
theorem dX6_appeal_8 : decode cX6_appeal 8 = .ok (.iload_n 2, 1) := by decide +kernel
theorem dX6_appeal_9 : decode cX6_appeal 9 = .ok (.iconst 0, 1) := by decide +kernel
theorem dX6_appeal_10 : decode cX6_appeal 10 = .ok (.aload_n 0, 1) := by decide +kernel
theorem dX6_appeal_11 : decode cX6_appeal 11 = .ok (.getfield 35, 3) := by decide +kernel
theorem dX6_appeal_14 : decode cX6_appeal 14 = .ok (.iload_n 1, 1) := by decide +kernel
theorem dX6_appeal_15 : decode cX6_appeal 15 = .ok (.iaload, 1) := by decide +kernel
theorem dX6_appeal_16 : decode cX6_appeal 16 = .ok (.iconst 1, 1) := by decide +kernel
theorem dX6_appeal_17 : decode cX6_appeal 17 = .ok (.isub, 1) := by decide +kernel
theorem dX6_appeal_18 : decode cX6_appeal 18 = .ok (.invokestatic 90, 3) := by decide +kernel
theorem dX6_appeal_21 : decode cX6_appeal 21 = .ok (.ifCond .eq 7, 3) := by decide +kernel
theorem dX6_appeal_24 : decode cX6_appeal 24 = .ok (.iconst 1, 1) := by decide +kernel
theorem dX6_appeal_25 : decode cX6_appeal 25 = .ok (.goto 4, 3) := by decide +kernel
theorem dX6_appeal_28 : decode cX6_appeal 28 = .ok (.iconst 0, 1) := by decide +kernel
theorem dX6_appeal_29 : decode cX6_appeal 29 = .ok (.istore_n 3, 1) := by decide +kernel
theorem dX6_appeal_30 : decode cX6_appeal 30 = .ok (.iload_n 3, 1) := by decide +kernel
theorem dX6_appeal_31 : decode cX6_appeal 31 = .ok (.ifCond .eq 12, 3) := by decide +kernel
theorem dX6_appeal_34 : decode cX6_appeal 34 = .ok (.bipush 50, 2) := by decide +kernel
theorem dX6_appeal_36 : decode cX6_appeal 36 = .ok (.iload_n 1, 1) := by decide +kernel
theorem dX6_appeal_37 : decode cX6_appeal 37 = .ok (.imul, 1) := by decide +kernel
theorem dX6_appeal_38 : decode cX6_appeal 38 = .ok (.iload_n 2, 1) := by decide +kernel
theorem dX6_appeal_39 : decode cX6_appeal 39 = .ok (.iadd, 1) := by decide +kernel
theorem dX6_appeal_40 : decode cX6_appeal 40 = .ok (.goto 4, 3) := by decide +kernel
theorem dX6_appeal_43 : decode cX6_appeal 43 = .ok (.iconst 0, 1) := by decide +kernel
theorem dX6_appeal_44 : decode cX6_appeal 44 = .ok (.istore 4, 2) := by decide +kernel
theorem dX6_appeal_46 : decode cX6_appeal 46 = .ok (.aload_n 0, 1) := by decide +kernel
theorem dX6_appeal_47 : decode cX6_appeal 47 = .ok (.iload_n 3, 1) := by decide +kernel
theorem dX6_appeal_48 : decode cX6_appeal 48 = .ok (.ifCond .ne 7, 3) := by decide +kernel
theorem dX6_appeal_51 : decode cX6_appeal 51 = .ok (.iconst 1, 1) := by decide +kernel
theorem dX6_appeal_52 : decode cX6_appeal 52 = .ok (.goto 27, 3) := by decide +kernel
theorem dX6_appeal_55 : decode cX6_appeal 55 = .ok (.aload_n 0, 1) := by decide +kernel
theorem dX6_appeal_56 : decode cX6_appeal 56 = .ok (.getfield 7, 3) := by decide +kernel
theorem dX6_appeal_59 : decode cX6_appeal 59 = .ok (.iload_n 1, 1) := by decide +kernel
theorem dX6_appeal_60 : decode cX6_appeal 60 = .ok (.baload, 1) := by decide +kernel
theorem dX6_appeal_61 : decode cX6_appeal 61 = .ok (.ifCond .ne 13, 3) := by decide +kernel
theorem dX6_appeal_64 : decode cX6_appeal 64 = .ok (.aload_n 0, 1) := by decide +kernel
theorem dX6_appeal_65 : decode cX6_appeal 65 = .ok (.getfield 65, 3) := by decide +kernel
theorem dX6_appeal_68 : decode cX6_appeal 68 = .ok (.iload 4, 2) := by decide +kernel
theorem dX6_appeal_70 : decode cX6_appeal 70 = .ok (.baload, 1) := by decide +kernel
theorem dX6_appeal_71 : decode cX6_appeal 71 = .ok (.ifCond .eq 7, 3) := by decide +kernel
theorem dX6_appeal_74 : decode cX6_appeal 74 = .ok (.iconst 2, 1) := by decide +kernel
theorem dX6_appeal_75 : decode cX6_appeal 75 = .ok (.goto 4, 3) := by decide +kernel
theorem dX6_appeal_78 : decode cX6_appeal 78 = .ok (.iconst 0, 1) := by decide +kernel
theorem dX6_appeal_79 : decode cX6_appeal 79 = .ok (.invokevirtual 97, 3) := by decide +kernel
theorem dX6_appeal_82 : decode cX6_appeal 82 = .ok (.ifCond .eq 5, 3) := by decide +kernel
theorem dX6_appeal_85 : decode cX6_appeal 85 = .ok (.iconst 0, 1) := by decide +kernel
theorem dX6_appeal_86 : decode cX6_appeal 86 = .ok (.ireturn, 1) := by decide +kernel
theorem dX6_appeal_87 : decode cX6_appeal 87 = .ok (.aload_n 0, 1) := by decide +kernel
theorem dX6_appeal_88 : decode cX6_appeal 88 = .ok (.getfield 65, 3) := by decide +kernel
theorem dX6_appeal_91 : decode cX6_appeal 91 = .ok (.iload 4, 2) := by decide +kernel
theorem dX6_appeal_93 : decode cX6_appeal 93 = .ok (.iconst 1, 1) := by decide +kernel
theorem dX6_appeal_94 : decode cX6_appeal 94 = .ok (.bastore, 1) := by decide +kernel
theorem dX6_appeal_95 : decode cX6_appeal 95 = .ok (.aload_n 0, 1) := by decide +kernel
theorem dX6_appeal_96 : decode cX6_appeal 96 = .ok (.getfield 62, 3) := by decide +kernel
theorem dX6_appeal_99 : decode cX6_appeal 99 = .ok (.iload 4, 2) := by decide +kernel
theorem dX6_appeal_101 : decode cX6_appeal 101 = .ok (.baload, 1) := by decide +kernel
theorem dX6_appeal_102 : decode cX6_appeal 102 = .ok (.ifCond .eq 8, 3) := by decide +kernel
theorem dX6_appeal_105 : decode cX6_appeal 105 = .ok (.aload_n 0, 1) := by decide +kernel
theorem dX6_appeal_106 : decode cX6_appeal 106 = .ok (.iload_n 1, 1) := by decide +kernel
theorem dX6_appeal_107 : decode cX6_appeal 107 = .ok (.invokevirtual 114, 3) := by decide +kernel
theorem dX6_appeal_110 : decode cX6_appeal 110 = .ok (.aload_n 0, 1) := by decide +kernel
theorem dX6_appeal_111 : decode cX6_appeal 111 = .ok (.iload_n 1, 1) := by decide +kernel
theorem dX6_appeal_112 : decode cX6_appeal 112 = .ok (.invokevirtual 118, 3) := by decide +kernel
theorem dX6_appeal_115 : decode cX6_appeal 115 = .ok (.ireturn, 1) := by decide +kernel
set_option maxRecDepth 20000 in
theorem ggX6_release_X6_isPerson : GoodIn wsX6_release wsX6_isPerson := goodIn_r _ [5, 6, 7, 8, 4, 9, 36, 37, 38, 39, 40, 41, 42, 43, 44, 45, 46, 47, 48, 49, 50, 51, 52, 53, 54, 55, 56, 57, 58, 59, 60, 61, 62, 63] (by decide +kernel) (by decide +kernel)
set_option maxRecDepth 20000 in
theorem gX6_release_X6_isPerson : GoodIn wsX6_release (wsV RX6 111 RX6 yX6_isPerson wsX6_isPerson) := goodIn_app (goodIn_of _ (by decide +kernel)) ggX6_release_X6_isPerson
set_option maxRecDepth 20000 in
theorem ggX6_release_X6_fails : GoodIn wsX6_release wsX6_fails := goodIn_r _ [13, 14, 36, 37, 38, 39, 40, 41, 42, 43, 44, 45, 46, 47, 48, 49, 50, 51, 52, 53, 54, 55, 56, 57, 58, 59, 60, 61, 62, 63] (by decide +kernel) (by decide +kernel)
set_option maxRecDepth 20000 in
theorem gX6_release_X6_fails : GoodIn wsX6_release (wsV RX6 97 RX6 yX6_fails wsX6_fails) := goodIn_app (goodIn_of _ (by decide +kernel)) ggX6_release_X6_fails
set_option maxRecDepth 20000 in
theorem ggX6_release_X6_releaseOf : GoodIn wsX6_release wsX6_releaseOf := goodIn_r _ [18, 19, 20, 21, 22, 23, 24, 25, 4, 26, 27, 28, 29, 30, 31, 32, 33, 34, 35, 36, 37, 38, 39, 40, 41, 42, 43, 44, 45, 46, 47, 48, 49, 50, 51, 52, 53, 54, 55, 56, 57, 58, 59, 60, 61, 62, 63] (by decide +kernel) (by decide +kernel)
set_option maxRecDepth 20000 in
theorem gX6_release_X6_releaseOf : GoodIn wsX6_release (wsV RX6 118 RX6 yX6_releaseOf wsX6_releaseOf) := goodIn_app (goodIn_of _ (by decide +kernel)) ggX6_release_X6_releaseOf
theorem dX6_release_0 : decode cX6_release 0 = .ok (.aload_n 0, 1) := by decide +kernel
theorem dX6_release_1 : decode cX6_release 1 = .ok (.aload_n 0, 1) := by decide +kernel
theorem dX6_release_2 : decode cX6_release 2 = .ok (.iload_n 1, 1) := by decide +kernel
theorem dX6_release_3 : decode cX6_release 3 = .ok (.invokevirtual 111, 3) := by decide +kernel
theorem dX6_release_6 : decode cX6_release 6 = .ok (.ifCond .eq 7, 3) := by decide +kernel
theorem dX6_release_9 : decode cX6_release 9 = .ok (.iconst 0, 1) := by decide +kernel
theorem dX6_release_10 : decode cX6_release 10 = .ok (.goto 4, 3) := by decide +kernel
theorem dX6_release_13 : decode cX6_release 13 = .ok (.iconst 1, 1) := by decide +kernel
theorem dX6_release_14 : decode cX6_release 14 = .ok (.invokevirtual 97, 3) := by decide +kernel
theorem dX6_release_17 : decode cX6_release 17 = .ok (.ifCond .eq 7, 3) := by decide +kernel
theorem dX6_release_20 : decode cX6_release 20 = .ok (.iconst 0, 1) := by decide +kernel
theorem dX6_release_21 : decode cX6_release 21 = .ok (.goto 8, 3) := by decide +kernel
theorem dX6_release_24 : decode cX6_release 24 = .ok (.aload_n 0, 1) := by decide +kernel
theorem dX6_release_25 : decode cX6_release 25 = .ok (.iload_n 1, 1) := by decide +kernel
theorem dX6_release_26 : decode cX6_release 26 = .ok (.invokevirtual 118, 3) := by decide +kernel
theorem dX6_release_29 : decode cX6_release 29 = .ok (.ireturn, 1) := by decide +kernel
set_option maxRecDepth 20000 in
theorem ggX6_isIn_X6_isPerson : GoodIn wsX6_isIn wsX6_isPerson := goodIn_r _ [6, 7, 8, 9, 5, 10, 16, 17, 18, 19, 20, 21, 22, 23, 24, 25, 26, 27, 28, 29, 30, 31, 32, 33, 34, 35, 36, 37, 38, 39, 40, 41, 42, 43] (by decide +kernel) (by decide +kernel)
set_option maxRecDepth 20000 in
theorem gX6_isIn_X6_isPerson : GoodIn wsX6_isIn (wsV RX6 111 RX6 yX6_isPerson wsX6_isPerson) := goodIn_app (goodIn_of _ (by decide +kernel)) ggX6_isIn_X6_isPerson
set_option maxRecDepth 20000 in
theorem ggX6_isIn_X6_fails : GoodIn wsX6_isIn wsX6_fails := goodIn_r _ [14, 15, 16, 17, 18, 19, 20, 21, 22, 23, 24, 25, 26, 27, 28, 29, 30, 31, 32, 33, 34, 35, 36, 37, 38, 39, 40, 41, 42, 43] (by decide +kernel) (by decide +kernel)
set_option maxRecDepth 20000 in
theorem gX6_isIn_X6_fails : GoodIn wsX6_isIn (wsV RX6 97 RX6 yX6_fails wsX6_fails) := goodIn_app (goodIn_of _ (by decide +kernel)) ggX6_isIn_X6_fails
theorem dX6_isIn_0 : decode cX6_isIn 0 = .ok (.aload_n 0, 1) := by decide +kernel
theorem dX6_isIn_1 : decode cX6_isIn 1 = .ok (.aload_n 0, 1) := by decide +kernel
theorem dX6_isIn_2 : decode cX6_isIn 2 = .ok (.iload_n 1, 1) := by decide +kernel
theorem dX6_isIn_3 : decode cX6_isIn 3 = .ok (.invokevirtual 111, 3) := by decide +kernel
theorem dX6_isIn_6 : decode cX6_isIn 6 = .ok (.ifCond .eq 7, 3) := by decide +kernel
theorem dX6_isIn_9 : decode cX6_isIn 9 = .ok (.iconst 0, 1) := by decide +kernel
theorem dX6_isIn_10 : decode cX6_isIn 10 = .ok (.goto 4, 3) := by decide +kernel
theorem dX6_isIn_13 : decode cX6_isIn 13 = .ok (.iconst 1, 1) := by decide +kernel
theorem dX6_isIn_14 : decode cX6_isIn 14 = .ok (.invokevirtual 97, 3) := by decide +kernel
theorem dX6_isIn_17 : decode cX6_isIn 17 = .ok (.ifCond .ne 16, 3) := by decide +kernel
theorem dX6_isIn_20 : decode cX6_isIn 20 = .ok (.aload_n 0, 1) := by decide +kernel
theorem dX6_isIn_21 : decode cX6_isIn 21 = .ok (.getfield 7, 3) := by decide +kernel
theorem dX6_isIn_24 : decode cX6_isIn 24 = .ok (.iload_n 1, 1) := by decide +kernel
theorem dX6_isIn_25 : decode cX6_isIn 25 = .ok (.baload, 1) := by decide +kernel
theorem dX6_isIn_26 : decode cX6_isIn 26 = .ok (.ifCond .ne 7, 3) := by decide +kernel
theorem dX6_isIn_29 : decode cX6_isIn 29 = .ok (.iconst 1, 1) := by decide +kernel
theorem dX6_isIn_30 : decode cX6_isIn 30 = .ok (.goto 4, 3) := by decide +kernel
theorem dX6_isIn_33 : decode cX6_isIn 33 = .ok (.iconst 0, 1) := by decide +kernel
theorem dX6_isIn_34 : decode cX6_isIn 34 = .ok (.ireturn, 1) := by decide +kernel
set_option maxRecDepth 20000 in
theorem ggX6_of_X6_isPerson : GoodIn wsX6_of wsX6_isPerson := goodIn_r _ [5, 6, 7, 8, 4, 9, 15, 16, 17, 18, 19, 20, 21, 22, 23, 24, 25, 26, 27, 28, 29, 30, 31, 32, 33, 34, 35, 36, 37, 38, 39, 40, 41, 42] (by decide +kernel) (by decide +kernel)
set_option maxRecDepth 20000 in
theorem gX6_of_X6_isPerson : GoodIn wsX6_of (wsV RX6 111 RX6 yX6_isPerson wsX6_isPerson) := goodIn_app (goodIn_of _ (by decide +kernel)) ggX6_of_X6_isPerson
set_option maxRecDepth 20000 in
theorem ggX6_of_X6_fails : GoodIn wsX6_of wsX6_fails := goodIn_r _ [13, 14, 15, 16, 17, 18, 19, 20, 21, 22, 23, 24, 25, 26, 27, 28, 29, 30, 31, 32, 33, 34, 35, 36, 37, 38, 39, 40, 41, 42] (by decide +kernel) (by decide +kernel)
set_option maxRecDepth 20000 in
theorem gX6_of_X6_fails : GoodIn wsX6_of (wsV RX6 97 RX6 yX6_fails wsX6_fails) := goodIn_app (goodIn_of _ (by decide +kernel)) ggX6_of_X6_fails
theorem dX6_of_0 : decode cX6_of 0 = .ok (.aload_n 0, 1) := by decide +kernel
theorem dX6_of_1 : decode cX6_of 1 = .ok (.aload_n 0, 1) := by decide +kernel
theorem dX6_of_2 : decode cX6_of 2 = .ok (.iload_n 2, 1) := by decide +kernel
theorem dX6_of_3 : decode cX6_of 3 = .ok (.invokevirtual 111, 3) := by decide +kernel
theorem dX6_of_6 : decode cX6_of 6 = .ok (.ifCond .eq 7, 3) := by decide +kernel
theorem dX6_of_9 : decode cX6_of 9 = .ok (.iconst 0, 1) := by decide +kernel
theorem dX6_of_10 : decode cX6_of 10 = .ok (.goto 4, 3) := by decide +kernel
theorem dX6_of_13 : decode cX6_of 13 = .ok (.iconst 1, 1) := by decide +kernel
theorem dX6_of_14 : decode cX6_of 14 = .ok (.invokevirtual 97, 3) := by decide +kernel
theorem dX6_of_17 : decode cX6_of 17 = .ok (.ifCond .eq 7, 3) := by decide +kernel
theorem dX6_of_20 : decode cX6_of 20 = .ok (.iconst 0, 1) := by decide +kernel
theorem dX6_of_21 : decode cX6_of 21 = .ok (.goto 6, 3) := by decide +kernel
theorem dX6_of_24 : decode cX6_of 24 = .ok (.aload_n 1, 1) := by decide +kernel
theorem dX6_of_25 : decode cX6_of 25 = .ok (.iload_n 2, 1) := by decide +kernel
theorem dX6_of_26 : decode cX6_of 26 = .ok (.iaload, 1) := by decide +kernel
theorem dX6_of_27 : decode cX6_of 27 = .ok (.ireturn, 1) := by decide +kernel
set_option maxRecDepth 20000 in
theorem ggX6_regime_X6_of : GoodIn wsX6_regime wsX6_of := goodIn_r _ [6, 7, 8, 9, 5, 10, 11, 12, 13, 14, 15, 16, 17, 18, 19, 20, 21, 22, 23, 24, 25, 26, 27, 28, 29, 30, 31, 32, 33, 34, 35, 36, 37, 38, 39, 40, 41, 42, 43, 44, 45, 46, 47] (by decide +kernel) (by decide +kernel)
set_option maxRecDepth 20000 in
theorem gX6_regime_X6_of : GoodIn wsX6_regime (wsV RX6 121 RX6 yX6_of wsX6_of) := goodIn_app (goodIn_of _ (by decide +kernel)) ggX6_regime_X6_of
theorem dX6_regime_0 : decode cX6_regime 0 = .ok (.aload_n 0, 1) := by decide +kernel
theorem dX6_regime_1 : decode cX6_regime 1 = .ok (.aload_n 0, 1) := by decide +kernel
theorem dX6_regime_2 : decode cX6_regime 2 = .ok (.getfield 23, 3) := by decide +kernel
theorem dX6_regime_5 : decode cX6_regime 5 = .ok (.iload_n 1, 1) := by decide +kernel
theorem dX6_regime_6 : decode cX6_regime 6 = .ok (.invokevirtual 121, 3) := by decide +kernel
theorem dX6_regime_9 : decode cX6_regime 9 = .ok (.ireturn, 1) := by decide +kernel
set_option maxRecDepth 20000 in
theorem ggX6_papers_X6_isPerson : GoodIn wsX6_papers wsX6_isPerson := goodIn_r _ [5, 6, 7, 8, 4, 9, 28, 29, 30, 31, 32, 33, 34, 35, 36, 37, 38, 39, 40, 41, 42, 43, 44, 45, 46, 47, 48, 49, 50, 51, 52, 53, 54, 55] (by decide +kernel) (by decide +kernel)
set_option maxRecDepth 20000 in
theorem gX6_papers_X6_isPerson : GoodIn wsX6_papers (wsV RX6 111 RX6 yX6_isPerson wsX6_isPerson) := goodIn_app (goodIn_of _ (by decide +kernel)) ggX6_papers_X6_isPerson
set_option maxRecDepth 20000 in
theorem ggX6_papers_X6_fails : GoodIn wsX6_papers wsX6_fails := goodIn_r _ [13, 14, 28, 29, 30, 31, 32, 33, 34, 35, 36, 37, 38, 39, 40, 41, 42, 43, 44, 45, 46, 47, 48, 49, 50, 51, 52, 53, 54, 55] (by decide +kernel) (by decide +kernel)
set_option maxRecDepth 20000 in
theorem gX6_papers_X6_fails : GoodIn wsX6_papers (wsV RX6 97 RX6 yX6_fails wsX6_fails) := goodIn_app (goodIn_of _ (by decide +kernel)) ggX6_papers_X6_fails
set_option maxRecDepth 20000 in
theorem ggX6_papers_X6_loses : GoodIn wsX6_papers wsX6_loses := goodIn_r _ [18, 19, 20, 21, 28, 29, 30, 31, 32, 33, 34, 35, 36, 37, 38, 39, 40, 41, 42, 43, 44, 45, 46, 47, 48, 49, 50, 51, 52, 53, 54, 55] (by decide +kernel) (by decide +kernel)
set_option maxRecDepth 20000 in
theorem gX6_papers_X6_loses : GoodIn wsX6_papers (wsV RX6 108 RX6 yX6_loses wsX6_loses) := goodIn_app (goodIn_of _ (by decide +kernel)) ggX6_papers_X6_loses
set_option maxRecDepth 20000 in
theorem ggX6_papers_X6_gains : GoodIn wsX6_papers wsX6_gains := goodIn_r _ [25, 26, 27, 28, 29, 30, 31, 32, 33, 34, 35, 36, 37, 38, 39, 40, 41, 42, 43, 44, 45, 46, 47, 48, 49, 50, 51, 52, 53, 54, 55] (by decide +kernel) (by decide +kernel)
set_option maxRecDepth 20000 in
theorem gX6_papers_X6_gains : GoodIn wsX6_papers (wsV RX6 104 RX6 yX6_gains wsX6_gains) := goodIn_app (goodIn_of _ (by decide +kernel)) ggX6_papers_X6_gains
theorem dX6_papers_0 : decode cX6_papers 0 = .ok (.aload_n 0, 1) := by decide +kernel
theorem dX6_papers_1 : decode cX6_papers 1 = .ok (.aload_n 0, 1) := by decide +kernel
theorem dX6_papers_2 : decode cX6_papers 2 = .ok (.iload_n 1, 1) := by decide +kernel
theorem dX6_papers_3 : decode cX6_papers 3 = .ok (.invokevirtual 111, 3) := by decide +kernel
theorem dX6_papers_6 : decode cX6_papers 6 = .ok (.ifCond .eq 7, 3) := by decide +kernel
theorem dX6_papers_9 : decode cX6_papers 9 = .ok (.iconst 0, 1) := by decide +kernel
theorem dX6_papers_10 : decode cX6_papers 10 = .ok (.goto 4, 3) := by decide +kernel
theorem dX6_papers_13 : decode cX6_papers 13 = .ok (.iconst 1, 1) := by decide +kernel
theorem dX6_papers_14 : decode cX6_papers 14 = .ok (.invokevirtual 97, 3) := by decide +kernel
theorem dX6_papers_17 : decode cX6_papers 17 = .ok (.ifCond .eq 7, 3) := by decide +kernel
theorem dX6_papers_20 : decode cX6_papers 20 = .ok (.iconst 0, 1) := by decide +kernel
theorem dX6_papers_21 : decode cX6_papers 21 = .ok (.goto 20, 3) := by decide +kernel
theorem dX6_papers_24 : decode cX6_papers 24 = .ok (.iload_n 2, 1) := by decide +kernel
theorem dX6_papers_25 : decode cX6_papers 25 = .ok (.ifCond .eq 11, 3) := by decide +kernel
theorem dX6_papers_28 : decode cX6_papers 28 = .ok (.aload_n 0, 1) := by decide +kernel
theorem dX6_papers_29 : decode cX6_papers 29 = .ok (.iload_n 1, 1) := by decide +kernel
theorem dX6_papers_30 : decode cX6_papers 30 = .ok (.invokevirtual 108, 3) := by decide +kernel
theorem dX6_papers_33 : decode cX6_papers 33 = .ok (.goto 8, 3) := by decide +kernel
theorem dX6_papers_36 : decode cX6_papers 36 = .ok (.aload_n 0, 1) := by decide +kernel
theorem dX6_papers_37 : decode cX6_papers 37 = .ok (.iload_n 1, 1) := by decide +kernel
theorem dX6_papers_38 : decode cX6_papers 38 = .ok (.invokevirtual 104, 3) := by decide +kernel
theorem dX6_papers_41 : decode cX6_papers 41 = .ok (.ireturn, 1) := by decide +kernel
set_option maxRecDepth 20000 in
theorem ggX6_isKind_X6_lies : GoodIn wsX6_isKind wsX6_lies := goodIn_r _ [4] (by decide +kernel) (by decide +kernel)
set_option maxRecDepth 20000 in
theorem gX6_isKind_X6_lies : GoodIn wsX6_isKind (va_wsS RX6 90 yX6_lies wsX6_lies) := goodIn_app (goodIn_of _ (by decide +kernel)) ggX6_isKind_X6_lies
theorem dX6_isKind_0 : decode cX6_isKind 0 = .ok (.iload_n 0, 1) := by decide +kernel
theorem dX6_isKind_1 : decode cX6_isKind 1 = .ok (.iconst 0, 1) := by decide +kernel
theorem dX6_isKind_2 : decode cX6_isKind 2 = .ok (.iconst 2, 1) := by decide +kernel
theorem dX6_isKind_3 : decode cX6_isKind 3 = .ok (.invokestatic 90, 3) := by decide +kernel
theorem dX6_isKind_6 : decode cX6_isKind 6 = .ok (.ireturn, 1) := by decide +kernel
theorem dX6_out_0 : decode cX6_out 0 = .ok (.iconst 0, 1) := by decide +kernel
theorem dX6_out_1 : decode cX6_out 1 = .ok (.istore_n 2, 1) := by decide +kernel
theorem dX6_out_2 : decode cX6_out 2 = .ok (.iconst 0, 1) := by decide +kernel
theorem dX6_out_3 : decode cX6_out 3 = .ok (.istore_n 3, 1) := by decide +kernel
theorem dX6_out_4 : decode cX6_out 4 = .ok (.iload_n 3, 1) := by decide +kernel
theorem dX6_out_5 : decode cX6_out 5 = .ok (.aload_n 0, 1) := by decide +kernel
theorem dX6_out_6 : decode cX6_out 6 = .ok (.getfield 87, 3) := by decide +kernel
theorem dX6_out_9 : decode cX6_out 9 = .ok (.if_icmp .ge 42, 3) := by decide +kernel
theorem dX6_out_12 : decode cX6_out 12 = .ok (.iload_n 2, 1) := by decide +kernel
theorem dX6_out_13 : decode cX6_out 13 = .ok (.aload_n 0, 1) := by decide +kernel
theorem dX6_out_14 : decode cX6_out 14 = .ok (.getfield 38, 3) := by decide +kernel
theorem dX6_out_17 : decode cX6_out 17 = .ok (.iload_n 3, 1) := by decide +kernel
theorem dX6_out_18 : decode cX6_out 18 = .ok (.iaload, 1) := by decide +kernel
theorem dX6_out_19 : decode cX6_out 19 = .ok (.iconst (-1), 1) := by decide +kernel
theorem dX6_out_20 : decode cX6_out 20 = .ok (.if_icmp .eq 22, 3) := by decide +kernel
theorem dX6_out_23 : decode cX6_out 23 = .ok (.aload_n 0, 1) := by decide +kernel
theorem dX6_out_24 : decode cX6_out 24 = .ok (.getfield 74, 3) := by decide +kernel
theorem dX6_out_27 : decode cX6_out 27 = .ok (.aload_n 0, 1) := by decide +kernel
theorem dX6_out_28 : decode cX6_out 28 = .ok (.getfield 38, 3) := by decide +kernel
theorem dX6_out_31 : decode cX6_out 31 = .ok (.iload_n 3, 1) := by decide +kernel
theorem dX6_out_32 : decode cX6_out 32 = .ok (.iaload, 1) := by decide +kernel
theorem dX6_out_33 : decode cX6_out 33 = .ok (.iaload, 1) := by decide +kernel
theorem dX6_out_34 : decode cX6_out 34 = .ok (.iload_n 1, 1) := by decide +kernel
theorem dX6_out_35 : decode cX6_out 35 = .ok (.if_icmp .ne 7, 3) := by decide +kernel
theorem dX6_out_38 : decode cX6_out 38 = .ok (.iconst 1, 1) := by decide +kernel
theorem dX6_out_39 : decode cX6_out 39 = .ok (.goto 4, 3) := by decide +kernel
theorem dX6_out_42 : decode cX6_out 42 = .ok (.iconst 0, 1) := by decide +kernel
theorem dX6_out_43 : decode cX6_out 43 = .ok (.iadd, 1) := by decide +kernel
theorem dX6_out_44 : decode cX6_out 44 = .ok (.istore_n 2, 1) := by decide +kernel
theorem dX6_out_45 : decode cX6_out 45 = .ok (.iinc 3 1, 3) := by decide +kernel
theorem dX6_out_48 : decode cX6_out 48 = .ok (.goto (-44), 3) := by decide +kernel
theorem dX6_out_51 : decode cX6_out 51 = .ok (.iload_n 2, 1) := by decide +kernel
theorem dX6_out_52 : decode cX6_out 52 = .ok (.ireturn, 1) := by decide +kernel
set_option maxRecDepth 20000 in
theorem ggX6_setTools_X6_isKind : GoodIn wsX6_setTools wsX6_isKind := goodIn_r _ [5, 6, 7, 4, 8] (by decide +kernel) (by decide +kernel)
set_option maxRecDepth 20000 in
theorem gX6_setTools_X6_isKind : GoodIn wsX6_setTools (va_wsS RX6 125 yX6_isKind wsX6_isKind) := goodIn_app (goodIn_of _ (by decide +kernel)) ggX6_setTools_X6_isKind
set_option maxRecDepth 20000 in
theorem ggX6_setTools_X6_lies : GoodIn wsX6_setTools wsX6_lies := goodIn_r _ [8] (by decide +kernel) (by decide +kernel)
set_option maxRecDepth 20000 in
theorem gX6_setTools_X6_lies : GoodIn wsX6_setTools (va_wsS RX6 90 yX6_lies wsX6_lies) := goodIn_app (goodIn_of _ (by decide +kernel)) ggX6_setTools_X6_lies
set_option maxRecDepth 20000 in
theorem ggX6_setTools_X6_out : GoodIn wsX6_setTools wsX6_out := goodIn_r _ [12, 13, 14, 15, 21, 22, 23, 24, 25, 26, 27, 28, 29, 30, 31, 32, 33, 34, 35, 36, 37, 38, 39, 40, 41, 42, 43, 44, 45, 46, 47, 48] (by decide +kernel) (by decide +kernel)
set_option maxRecDepth 20000 in
theorem gX6_setTools_X6_out : GoodIn wsX6_setTools (wsV RX6 128 RX6 yX6_out wsX6_out) := goodIn_app (goodIn_of _ (by decide +kernel)) ggX6_setTools_X6_out
set_option maxRecDepth 20000 in
theorem ggX6_setTools_X6_fails : GoodIn wsX6_setTools wsX6_fails := goodIn_r _ [19, 20, 21, 22, 23, 24, 25, 26, 27, 28, 29, 30, 31, 32, 33, 34, 35, 36, 37, 38, 39, 40, 41, 42, 43, 44, 45, 46, 47, 48] (by decide +kernel) (by decide +kernel)
set_option maxRecDepth 20000 in
theorem gX6_setTools_X6_fails : GoodIn wsX6_setTools (wsV RX6 97 RX6 yX6_fails wsX6_fails) := goodIn_app (goodIn_of _ (by decide +kernel)) ggX6_setTools_X6_fails
theorem dX6_setTools_0 : decode cX6_setTools 0 = .ok (.aload_n 0, 1) := by decide +kernel
theorem dX6_setTools_1 : decode cX6_setTools 1 = .ok (.iload_n 1, 1) := by decide +kernel
theorem dX6_setTools_2 : decode cX6_setTools 2 = .ok (.invokestatic 125, 3) := by decide +kernel
theorem dX6_setTools_5 : decode cX6_setTools 5 = .ok (.ifCond .ne 7, 3) := by decide +kernel
theorem dX6_setTools_8 : decode cX6_setTools 8 = .ok (.iconst 1, 1) := by decide +kernel
theorem dX6_setTools_9 : decode cX6_setTools 9 = .ok (.goto 31, 3) := by decide +kernel
theorem dX6_setTools_12 : decode cX6_setTools 12 = .ok (.iload_n 2, 1) := by decide +kernel
theorem dX6_setTools_13 : decode cX6_setTools 13 = .ok (.iconst 0, 1) := by decide +kernel
theorem dX6_setTools_14 : decode cX6_setTools 14 = .ok (.bipush 20, 2) := by decide +kernel
theorem dX6_setTools_16 : decode cX6_setTools 16 = .ok (.invokestatic 90, 3) := by decide +kernel
theorem dX6_setTools_19 : decode cX6_setTools 19 = .ok (.ifCond .ne 7, 3) := by decide +kernel
theorem dX6_setTools_22 : decode cX6_setTools 22 = .ok (.iconst 2, 1) := by decide +kernel
theorem dX6_setTools_23 : decode cX6_setTools 23 = .ok (.goto 17, 3) := by decide +kernel
theorem dX6_setTools_26 : decode cX6_setTools 26 = .ok (.aload_n 0, 1) := by decide +kernel
theorem dX6_setTools_27 : decode cX6_setTools 27 = .ok (.iload_n 1, 1) := by decide +kernel
theorem dX6_setTools_28 : decode cX6_setTools 28 = .ok (.invokevirtual 128, 3) := by decide +kernel
theorem dX6_setTools_31 : decode cX6_setTools 31 = .ok (.iload_n 2, 1) := by decide +kernel
theorem dX6_setTools_32 : decode cX6_setTools 32 = .ok (.if_icmp .le 7, 3) := by decide +kernel
theorem dX6_setTools_35 : decode cX6_setTools 35 = .ok (.iconst 3, 1) := by decide +kernel
theorem dX6_setTools_36 : decode cX6_setTools 36 = .ok (.goto 4, 3) := by decide +kernel
theorem dX6_setTools_39 : decode cX6_setTools 39 = .ok (.iconst 0, 1) := by decide +kernel
theorem dX6_setTools_40 : decode cX6_setTools 40 = .ok (.invokevirtual 97, 3) := by decide +kernel
theorem dX6_setTools_43 : decode cX6_setTools 43 = .ok (.ifCond .eq 5, 3) := by decide +kernel
theorem dX6_setTools_46 : decode cX6_setTools 46 = .ok (.iconst 0, 1) := by decide +kernel
theorem dX6_setTools_47 : decode cX6_setTools 47 = .ok (.ireturn, 1) := by decide +kernel
theorem dX6_setTools_48 : decode cX6_setTools 48 = .ok (.aload_n 0, 1) := by decide +kernel
theorem dX6_setTools_49 : decode cX6_setTools 49 = .ok (.getfield 68, 3) := by decide +kernel
theorem dX6_setTools_52 : decode cX6_setTools 52 = .ok (.iload_n 1, 1) := by decide +kernel
theorem dX6_setTools_53 : decode cX6_setTools 53 = .ok (.iaload, 1) := by decide +kernel
theorem dX6_setTools_54 : decode cX6_setTools 54 = .ok (.istore_n 3, 1) := by decide +kernel
theorem dX6_setTools_55 : decode cX6_setTools 55 = .ok (.aload_n 0, 1) := by decide +kernel
theorem dX6_setTools_56 : decode cX6_setTools 56 = .ok (.getfield 68, 3) := by decide +kernel
theorem dX6_setTools_59 : decode cX6_setTools 59 = .ok (.iload_n 1, 1) := by decide +kernel
theorem dX6_setTools_60 : decode cX6_setTools 60 = .ok (.iload_n 2, 1) := by decide +kernel
theorem dX6_setTools_61 : decode cX6_setTools 61 = .ok (.iastore, 1) := by decide +kernel
theorem dX6_setTools_62 : decode cX6_setTools 62 = .ok (.iload_n 3, 1) := by decide +kernel
theorem dX6_setTools_63 : decode cX6_setTools 63 = .ok (.ireturn, 1) := by decide +kernel
set_option maxRecDepth 20000 in
theorem ggX6_toolsOut_X6_isKind : GoodIn wsX6_toolsOut wsX6_isKind := goodIn_r _ [4, 5, 6, 3, 7] (by decide +kernel) (by decide +kernel)
set_option maxRecDepth 20000 in
theorem gX6_toolsOut_X6_isKind : GoodIn wsX6_toolsOut (va_wsS RX6 125 yX6_isKind wsX6_isKind) := goodIn_app (goodIn_of _ (by decide +kernel)) ggX6_toolsOut_X6_isKind
set_option maxRecDepth 20000 in
theorem ggX6_toolsOut_X6_fails : GoodIn wsX6_toolsOut wsX6_fails := goodIn_r _ [11, 12, 20, 21, 22, 23, 24, 25, 26, 27, 28, 29, 30, 31, 32, 33, 34, 35, 36, 37, 38, 39, 40, 41, 42, 43, 44, 45, 46, 47] (by decide +kernel) (by decide +kernel)
set_option maxRecDepth 20000 in
theorem gX6_toolsOut_X6_fails : GoodIn wsX6_toolsOut (wsV RX6 97 RX6 yX6_fails wsX6_fails) := goodIn_app (goodIn_of _ (by decide +kernel)) ggX6_toolsOut_X6_fails
set_option maxRecDepth 20000 in
theorem ggX6_toolsOut_X6_out : GoodIn wsX6_toolsOut wsX6_out := goodIn_r _ [16, 17, 18, 19, 20, 21, 22, 23, 24, 25, 26, 27, 28, 29, 30, 31, 32, 33, 34, 35, 36, 37, 38, 39, 40, 41, 42, 43, 44, 45, 46, 47] (by decide +kernel) (by decide +kernel)
set_option maxRecDepth 20000 in
theorem gX6_toolsOut_X6_out : GoodIn wsX6_toolsOut (wsV RX6 128 RX6 yX6_out wsX6_out) := goodIn_app (goodIn_of _ (by decide +kernel)) ggX6_toolsOut_X6_out
theorem dX6_toolsOut_0 : decode cX6_toolsOut 0 = .ok (.aload_n 0, 1) := by decide +kernel
theorem dX6_toolsOut_1 : decode cX6_toolsOut 1 = .ok (.iload_n 1, 1) := by decide +kernel
theorem dX6_toolsOut_2 : decode cX6_toolsOut 2 = .ok (.invokestatic 125, 3) := by decide +kernel
theorem dX6_toolsOut_5 : decode cX6_toolsOut 5 = .ok (.ifCond .eq 7, 3) := by decide +kernel
theorem dX6_toolsOut_8 : decode cX6_toolsOut 8 = .ok (.iconst 0, 1) := by decide +kernel
theorem dX6_toolsOut_9 : decode cX6_toolsOut 9 = .ok (.goto 4, 3) := by decide +kernel
theorem dX6_toolsOut_12 : decode cX6_toolsOut 12 = .ok (.iconst 1, 1) := by decide +kernel
theorem dX6_toolsOut_13 : decode cX6_toolsOut 13 = .ok (.invokevirtual 97, 3) := by decide +kernel
theorem dX6_toolsOut_16 : decode cX6_toolsOut 16 = .ok (.ifCond .eq 7, 3) := by decide +kernel
theorem dX6_toolsOut_19 : decode cX6_toolsOut 19 = .ok (.iconst 0, 1) := by decide +kernel
theorem dX6_toolsOut_20 : decode cX6_toolsOut 20 = .ok (.goto 8, 3) := by decide +kernel
theorem dX6_toolsOut_23 : decode cX6_toolsOut 23 = .ok (.aload_n 0, 1) := by decide +kernel
theorem dX6_toolsOut_24 : decode cX6_toolsOut 24 = .ok (.iload_n 1, 1) := by decide +kernel
theorem dX6_toolsOut_25 : decode cX6_toolsOut 25 = .ok (.invokevirtual 128, 3) := by decide +kernel
theorem dX6_toolsOut_28 : decode cX6_toolsOut 28 = .ok (.ireturn, 1) := by decide +kernel
set_option maxRecDepth 20000 in
theorem ggX6_addOrder_X6_lies : GoodIn wsX6_addOrder wsX6_lies := goodIn_r _ [9] (by decide +kernel) (by decide +kernel)
set_option maxRecDepth 20000 in
theorem gX6_addOrder_X6_lies : GoodIn wsX6_addOrder (va_wsS RX6 90 yX6_lies wsX6_lies) := goodIn_app (goodIn_of _ (by decide +kernel)) ggX6_addOrder_X6_lies
set_option maxRecDepth 20000 in
theorem ggX6_addOrder_X6_isKind : GoodIn wsX6_addOrder wsX6_isKind := goodIn_r _ [12, 6, 7, 8, 9] (by decide +kernel) (by decide +kernel)
set_option maxRecDepth 20000 in
theorem gX6_addOrder_X6_isKind : GoodIn wsX6_addOrder (va_wsS RX6 125 yX6_isKind wsX6_isKind) := goodIn_app (goodIn_of _ (by decide +kernel)) ggX6_addOrder_X6_isKind
set_option maxRecDepth 20000 in
theorem ggX6_addOrder_X6_fails : GoodIn wsX6_addOrder wsX6_fails := goodIn_r _ [16, 17, 18, 19, 20, 21, 22, 23, 24, 25, 26, 27, 28, 29, 30, 31, 32, 33, 34, 35, 36, 37, 38, 39, 40, 41, 42, 43, 44, 45] (by decide +kernel) (by decide +kernel)
set_option maxRecDepth 20000 in
theorem gX6_addOrder_X6_fails : GoodIn wsX6_addOrder (wsV RX6 97 RX6 yX6_fails wsX6_fails) := goodIn_app (goodIn_of _ (by decide +kernel)) ggX6_addOrder_X6_fails
theorem dX6_addOrder_0 : decode cX6_addOrder 0 = .ok (.iload_n 1, 1) := by decide +kernel
theorem dX6_addOrder_1 : decode cX6_addOrder 1 = .ok (.iconst 0, 1) := by decide +kernel
theorem dX6_addOrder_2 : decode cX6_addOrder 2 = .ok (.iconst 3, 1) := by decide +kernel
theorem dX6_addOrder_3 : decode cX6_addOrder 3 = .ok (.invokestatic 90, 3) := by decide +kernel
theorem dX6_addOrder_6 : decode cX6_addOrder 6 = .ok (.ifCond .eq 14, 3) := by decide +kernel
theorem dX6_addOrder_9 : decode cX6_addOrder 9 = .ok (.iload_n 2, 1) := by decide +kernel
theorem dX6_addOrder_10 : decode cX6_addOrder 10 = .ok (.invokestatic 125, 3) := by decide +kernel
theorem dX6_addOrder_13 : decode cX6_addOrder 13 = .ok (.ifCond .eq 7, 3) := by decide +kernel
theorem dX6_addOrder_16 : decode cX6_addOrder 16 = .ok (.iconst 1, 1) := by decide +kernel
theorem dX6_addOrder_17 : decode cX6_addOrder 17 = .ok (.goto 4, 3) := by decide +kernel
theorem dX6_addOrder_20 : decode cX6_addOrder 20 = .ok (.iconst 0, 1) := by decide +kernel
theorem dX6_addOrder_21 : decode cX6_addOrder 21 = .ok (.istore 5, 2) := by decide +kernel
theorem dX6_addOrder_23 : decode cX6_addOrder 23 = .ok (.iload_n 3, 1) := by decide +kernel
theorem dX6_addOrder_24 : decode cX6_addOrder 24 = .ok (.iconst 1, 1) := by decide +kernel
theorem dX6_addOrder_25 : decode cX6_addOrder 25 = .ok (.sipush 500, 3) := by decide +kernel
theorem dX6_addOrder_28 : decode cX6_addOrder 28 = .ok (.invokestatic 90, 3) := by decide +kernel
theorem dX6_addOrder_31 : decode cX6_addOrder 31 = .ok (.ifCond .eq 19, 3) := by decide +kernel
theorem dX6_addOrder_34 : decode cX6_addOrder 34 = .ok (.iload 4, 2) := by decide +kernel
theorem dX6_addOrder_36 : decode cX6_addOrder 36 = .ok (.iconst 0, 1) := by decide +kernel
theorem dX6_addOrder_37 : decode cX6_addOrder 37 = .ok (.sipush 1000, 3) := by decide +kernel
theorem dX6_addOrder_40 : decode cX6_addOrder 40 = .ok (.invokestatic 90, 3) := by decide +kernel
theorem dX6_addOrder_43 : decode cX6_addOrder 43 = .ok (.ifCond .eq 7, 3) := by decide +kernel
theorem dX6_addOrder_46 : decode cX6_addOrder 46 = .ok (.iconst 1, 1) := by decide +kernel
theorem dX6_addOrder_47 : decode cX6_addOrder 47 = .ok (.goto 4, 3) := by decide +kernel
theorem dX6_addOrder_50 : decode cX6_addOrder 50 = .ok (.iconst 0, 1) := by decide +kernel
theorem dX6_addOrder_51 : decode cX6_addOrder 51 = .ok (.istore 6, 2) := by decide +kernel
theorem dX6_addOrder_53 : decode cX6_addOrder 53 = .ok (.aload_n 0, 1) := by decide +kernel
theorem dX6_addOrder_54 : decode cX6_addOrder 54 = .ok (.iload 5, 2) := by decide +kernel
theorem dX6_addOrder_56 : decode cX6_addOrder 56 = .ok (.ifCond .ne 7, 3) := by decide +kernel
theorem dX6_addOrder_59 : decode cX6_addOrder 59 = .ok (.iconst 1, 1) := by decide +kernel
theorem dX6_addOrder_60 : decode cX6_addOrder 60 = .ok (.goto 26, 3) := by decide +kernel
theorem dX6_addOrder_63 : decode cX6_addOrder 63 = .ok (.iload 6, 2) := by decide +kernel
theorem dX6_addOrder_65 : decode cX6_addOrder 65 = .ok (.ifCond .ne 7, 3) := by decide +kernel
theorem dX6_addOrder_68 : decode cX6_addOrder 68 = .ok (.iconst 2, 1) := by decide +kernel
theorem dX6_addOrder_69 : decode cX6_addOrder 69 = .ok (.goto 17, 3) := by decide +kernel
theorem dX6_addOrder_72 : decode cX6_addOrder 72 = .ok (.aload_n 0, 1) := by decide +kernel
theorem dX6_addOrder_73 : decode cX6_addOrder 73 = .ok (.getfield 94, 3) := by decide +kernel
theorem dX6_addOrder_76 : decode cX6_addOrder 76 = .ok (.bipush 8, 2) := by decide +kernel
theorem dX6_addOrder_78 : decode cX6_addOrder 78 = .ok (.if_icmp .ne 7, 3) := by decide +kernel
theorem dX6_addOrder_81 : decode cX6_addOrder 81 = .ok (.iconst 3, 1) := by decide +kernel
theorem dX6_addOrder_82 : decode cX6_addOrder 82 = .ok (.goto 4, 3) := by decide +kernel
theorem dX6_addOrder_85 : decode cX6_addOrder 85 = .ok (.iconst 0, 1) := by decide +kernel
theorem dX6_addOrder_86 : decode cX6_addOrder 86 = .ok (.invokevirtual 97, 3) := by decide +kernel
theorem dX6_addOrder_89 : decode cX6_addOrder 89 = .ok (.ifCond .eq 5, 3) := by decide +kernel
theorem dX6_addOrder_92 : decode cX6_addOrder 92 = .ok (.iconst 0, 1) := by decide +kernel
theorem dX6_addOrder_93 : decode cX6_addOrder 93 = .ok (.ireturn, 1) := by decide +kernel
theorem dX6_addOrder_94 : decode cX6_addOrder 94 = .ok (.aload_n 0, 1) := by decide +kernel
theorem dX6_addOrder_95 : decode cX6_addOrder 95 = .ok (.getfield 71, 3) := by decide +kernel
theorem dX6_addOrder_98 : decode cX6_addOrder 98 = .ok (.aload_n 0, 1) := by decide +kernel
theorem dX6_addOrder_99 : decode cX6_addOrder 99 = .ok (.getfield 94, 3) := by decide +kernel
theorem dX6_addOrder_102 : decode cX6_addOrder 102 = .ok (.iload_n 1, 1) := by decide +kernel
theorem dX6_addOrder_103 : decode cX6_addOrder 103 = .ok (.iastore, 1) := by decide +kernel
theorem dX6_addOrder_104 : decode cX6_addOrder 104 = .ok (.aload_n 0, 1) := by decide +kernel
theorem dX6_addOrder_105 : decode cX6_addOrder 105 = .ok (.getfield 74, 3) := by decide +kernel
theorem dX6_addOrder_108 : decode cX6_addOrder 108 = .ok (.aload_n 0, 1) := by decide +kernel
theorem dX6_addOrder_109 : decode cX6_addOrder 109 = .ok (.getfield 94, 3) := by decide +kernel
theorem dX6_addOrder_112 : decode cX6_addOrder 112 = .ok (.iload_n 2, 1) := by decide +kernel
theorem dX6_addOrder_113 : decode cX6_addOrder 113 = .ok (.iastore, 1) := by decide +kernel
theorem dX6_addOrder_114 : decode cX6_addOrder 114 = .ok (.aload_n 0, 1) := by decide +kernel
theorem dX6_addOrder_115 : decode cX6_addOrder 115 = .ok (.getfield 77, 3) := by decide +kernel
theorem dX6_addOrder_118 : decode cX6_addOrder 118 = .ok (.aload_n 0, 1) := by decide +kernel
theorem dX6_addOrder_119 : decode cX6_addOrder 119 = .ok (.getfield 94, 3) := by decide +kernel
theorem dX6_addOrder_122 : decode cX6_addOrder 122 = .ok (.iload_n 3, 1) := by decide +kernel
theorem dX6_addOrder_123 : decode cX6_addOrder 123 = .ok (.iastore, 1) := by decide +kernel
theorem dX6_addOrder_124 : decode cX6_addOrder 124 = .ok (.aload_n 0, 1) := by decide +kernel
theorem dX6_addOrder_125 : decode cX6_addOrder 125 = .ok (.getfield 80, 3) := by decide +kernel
theorem dX6_addOrder_128 : decode cX6_addOrder 128 = .ok (.aload_n 0, 1) := by decide +kernel
theorem dX6_addOrder_129 : decode cX6_addOrder 129 = .ok (.getfield 94, 3) := by decide +kernel
theorem dX6_addOrder_132 : decode cX6_addOrder 132 = .ok (.iload 4, 2) := by decide +kernel
theorem dX6_addOrder_134 : decode cX6_addOrder 134 = .ok (.iastore, 1) := by decide +kernel
theorem dX6_addOrder_135 : decode cX6_addOrder 135 = .ok (.aload_n 0, 1) := by decide +kernel
theorem dX6_addOrder_136 : decode cX6_addOrder 136 = .ok (.dup, 1) := by decide +kernel
theorem dX6_addOrder_137 : decode cX6_addOrder 137 = .ok (.getfield 94, 3) := by decide +kernel
theorem dX6_addOrder_140 : decode cX6_addOrder 140 = .ok (.iconst 1, 1) := by decide +kernel
theorem dX6_addOrder_141 : decode cX6_addOrder 141 = .ok (.iadd, 1) := by decide +kernel
theorem dX6_addOrder_142 : decode cX6_addOrder 142 = .ok (.putfield 94, 3) := by decide +kernel
theorem dX6_addOrder_145 : decode cX6_addOrder 145 = .ok (.aload_n 0, 1) := by decide +kernel
theorem dX6_addOrder_146 : decode cX6_addOrder 146 = .ok (.getfield 94, 3) := by decide +kernel
theorem dX6_addOrder_149 : decode cX6_addOrder 149 = .ok (.iconst 1, 1) := by decide +kernel
theorem dX6_addOrder_150 : decode cX6_addOrder 150 = .ok (.isub, 1) := by decide +kernel
theorem dX6_addOrder_151 : decode cX6_addOrder 151 = .ok (.ireturn, 1) := by decide +kernel
set_option maxRecDepth 20000 in
theorem ggX6_assign_X6_isPerson : GoodIn wsX6_assign wsX6_isPerson := goodIn_r _ [13, 8, 14, 15, 12, 16, 31, 32, 33, 34, 35, 36, 37, 38, 39, 40, 41, 42, 43, 44, 45, 46, 47, 48, 49, 50, 51, 52, 53, 54, 55, 56, 57, 58] (by decide +kernel) (by decide +kernel)
set_option maxRecDepth 20000 in
theorem gX6_assign_X6_isPerson : GoodIn wsX6_assign (wsV RX6 111 RX6 yX6_isPerson wsX6_isPerson) := goodIn_app (goodIn_of _ (by decide +kernel)) ggX6_assign_X6_isPerson
set_option maxRecDepth 20000 in
theorem ggX6_assign_X6_isOrder : GoodIn wsX6_assign wsX6_isOrder := goodIn_r _ [20, 21, 14, 15, 12, 16, 31, 32, 33, 34, 35, 36, 37, 38, 39, 40, 41, 42, 43, 44, 45, 46, 47, 48, 49, 50, 51, 52, 53, 54, 55, 56, 57, 58] (by decide +kernel) (by decide +kernel)
set_option maxRecDepth 20000 in
theorem gX6_assign_X6_isOrder : GoodIn wsX6_assign (wsV RX6 131 RX6 yX6_isOrder wsX6_isOrder) := goodIn_app (goodIn_of _ (by decide +kernel)) ggX6_assign_X6_isOrder
set_option maxRecDepth 20000 in
theorem ggX6_assign_X6_out : GoodIn wsX6_assign wsX6_out := goodIn_r _ [25, 8, 2, 6, 31, 32, 33, 34, 35, 36, 37, 38, 39, 40, 41, 42, 43, 44, 45, 46, 47, 48, 49, 50, 51, 52, 53, 54, 55, 56, 57, 58] (by decide +kernel) (by decide +kernel)
set_option maxRecDepth 20000 in
theorem gX6_assign_X6_out : GoodIn wsX6_assign (wsV RX6 128 RX6 yX6_out wsX6_out) := goodIn_app (goodIn_of _ (by decide +kernel)) ggX6_assign_X6_out
set_option maxRecDepth 20000 in
theorem ggX6_assign_X6_fails : GoodIn wsX6_assign wsX6_fails := goodIn_r _ [29, 30, 31, 32, 33, 34, 35, 36, 37, 38, 39, 40, 41, 42, 43, 44, 45, 46, 47, 48, 49, 50, 51, 52, 53, 54, 55, 56, 57, 58] (by decide +kernel) (by decide +kernel)
set_option maxRecDepth 20000 in
theorem gX6_assign_X6_fails : GoodIn wsX6_assign (wsV RX6 97 RX6 yX6_fails wsX6_fails) := goodIn_app (goodIn_of _ (by decide +kernel)) ggX6_assign_X6_fails
theorem dX6_assign_0 : decode cX6_assign 0 = .ok (.aload_n 0, 1) := by decide +kernel
theorem dX6_assign_1 : decode cX6_assign 1 = .ok (.iload_n 1, 1) := by decide +kernel
theorem dX6_assign_2 : decode cX6_assign 2 = .ok (.invokevirtual 111, 3) := by decide +kernel
theorem dX6_assign_5 : decode cX6_assign 5 = .ok (.ifCond .eq 15, 3) := by decide +kernel
theorem dX6_assign_8 : decode cX6_assign 8 = .ok (.aload_n 0, 1) := by decide +kernel
theorem dX6_assign_9 : decode cX6_assign 9 = .ok (.iload_n 2, 1) := by decide +kernel
theorem dX6_assign_10 : decode cX6_assign 10 = .ok (.invokevirtual 131, 3) := by decide +kernel
theorem dX6_assign_13 : decode cX6_assign 13 = .ok (.ifCond .eq 7, 3) := by decide +kernel
theorem dX6_assign_16 : decode cX6_assign 16 = .ok (.iconst 1, 1) := by decide +kernel
theorem dX6_assign_17 : decode cX6_assign 17 = .ok (.goto 4, 3) := by decide +kernel
theorem dX6_assign_20 : decode cX6_assign 20 = .ok (.iconst 0, 1) := by decide +kernel
theorem dX6_assign_21 : decode cX6_assign 21 = .ok (.istore_n 3, 1) := by decide +kernel
theorem dX6_assign_22 : decode cX6_assign 22 = .ok (.iload_n 3, 1) := by decide +kernel
theorem dX6_assign_23 : decode cX6_assign 23 = .ok (.ifCond .eq 78, 3) := by decide +kernel
theorem dX6_assign_26 : decode cX6_assign 26 = .ok (.aload_n 0, 1) := by decide +kernel
theorem dX6_assign_27 : decode cX6_assign 27 = .ok (.getfield 7, 3) := by decide +kernel
theorem dX6_assign_30 : decode cX6_assign 30 = .ok (.iload_n 1, 1) := by decide +kernel
theorem dX6_assign_31 : decode cX6_assign 31 = .ok (.baload, 1) := by decide +kernel
theorem dX6_assign_32 : decode cX6_assign 32 = .ok (.ifCond .ne 69, 3) := by decide +kernel
theorem dX6_assign_35 : decode cX6_assign 35 = .ok (.aload_n 0, 1) := by decide +kernel
theorem dX6_assign_36 : decode cX6_assign 36 = .ok (.getfield 38, 3) := by decide +kernel
theorem dX6_assign_39 : decode cX6_assign 39 = .ok (.iload_n 1, 1) := by decide +kernel
theorem dX6_assign_40 : decode cX6_assign 40 = .ok (.iaload, 1) := by decide +kernel
theorem dX6_assign_41 : decode cX6_assign 41 = .ok (.iconst (-1), 1) := by decide +kernel
theorem dX6_assign_42 : decode cX6_assign 42 = .ok (.if_icmp .ne 59, 3) := by decide +kernel
theorem dX6_assign_45 : decode cX6_assign 45 = .ok (.aload_n 0, 1) := by decide +kernel
theorem dX6_assign_46 : decode cX6_assign 46 = .ok (.getfield 20, 3) := by decide +kernel
theorem dX6_assign_49 : decode cX6_assign 49 = .ok (.iload_n 1, 1) := by decide +kernel
theorem dX6_assign_50 : decode cX6_assign 50 = .ok (.iaload, 1) := by decide +kernel
theorem dX6_assign_51 : decode cX6_assign 51 = .ok (.aload_n 0, 1) := by decide +kernel
theorem dX6_assign_52 : decode cX6_assign 52 = .ok (.getfield 71, 3) := by decide +kernel
theorem dX6_assign_55 : decode cX6_assign 55 = .ok (.iload_n 2, 1) := by decide +kernel
theorem dX6_assign_56 : decode cX6_assign 56 = .ok (.iaload, 1) := by decide +kernel
theorem dX6_assign_57 : decode cX6_assign 57 = .ok (.ishr, 1) := by decide +kernel
theorem dX6_assign_58 : decode cX6_assign 58 = .ok (.iconst 1, 1) := by decide +kernel
theorem dX6_assign_59 : decode cX6_assign 59 = .ok (.iand, 1) := by decide +kernel
theorem dX6_assign_60 : decode cX6_assign 60 = .ok (.iconst 1, 1) := by decide +kernel
theorem dX6_assign_61 : decode cX6_assign 61 = .ok (.if_icmp .ne 40, 3) := by decide +kernel
theorem dX6_assign_64 : decode cX6_assign 64 = .ok (.aload_n 0, 1) := by decide +kernel
theorem dX6_assign_65 : decode cX6_assign 65 = .ok (.getfield 77, 3) := by decide +kernel
theorem dX6_assign_68 : decode cX6_assign 68 = .ok (.iload_n 2, 1) := by decide +kernel
theorem dX6_assign_69 : decode cX6_assign 69 = .ok (.iaload, 1) := by decide +kernel
theorem dX6_assign_70 : decode cX6_assign 70 = .ok (.ifCond .le 31, 3) := by decide +kernel
theorem dX6_assign_73 : decode cX6_assign 73 = .ok (.aload_n 0, 1) := by decide +kernel
theorem dX6_assign_74 : decode cX6_assign 74 = .ok (.aload_n 0, 1) := by decide +kernel
theorem dX6_assign_75 : decode cX6_assign 75 = .ok (.getfield 74, 3) := by decide +kernel
theorem dX6_assign_78 : decode cX6_assign 78 = .ok (.iload_n 2, 1) := by decide +kernel
theorem dX6_assign_79 : decode cX6_assign 79 = .ok (.iaload, 1) := by decide +kernel
theorem dX6_assign_80 : decode cX6_assign 80 = .ok (.invokevirtual 128, 3) := by decide +kernel
theorem dX6_assign_83 : decode cX6_assign 83 = .ok (.aload_n 0, 1) := by decide +kernel
theorem dX6_assign_84 : decode cX6_assign 84 = .ok (.getfield 68, 3) := by decide +kernel
theorem dX6_assign_87 : decode cX6_assign 87 = .ok (.aload_n 0, 1) := by decide +kernel
theorem dX6_assign_88 : decode cX6_assign 88 = .ok (.getfield 74, 3) := by decide +kernel
theorem dX6_assign_91 : decode cX6_assign 91 = .ok (.iload_n 2, 1) := by decide +kernel
theorem dX6_assign_92 : decode cX6_assign 92 = .ok (.iaload, 1) := by decide +kernel
theorem dX6_assign_93 : decode cX6_assign 93 = .ok (.iaload, 1) := by decide +kernel
theorem dX6_assign_94 : decode cX6_assign 94 = .ok (.if_icmp .ge 7, 3) := by decide +kernel
theorem dX6_assign_97 : decode cX6_assign 97 = .ok (.iconst 1, 1) := by decide +kernel
theorem dX6_assign_98 : decode cX6_assign 98 = .ok (.goto 4, 3) := by decide +kernel
theorem dX6_assign_101 : decode cX6_assign 101 = .ok (.iconst 0, 1) := by decide +kernel
theorem dX6_assign_102 : decode cX6_assign 102 = .ok (.istore 4, 2) := by decide +kernel
theorem dX6_assign_104 : decode cX6_assign 104 = .ok (.aload_n 0, 1) := by decide +kernel
theorem dX6_assign_105 : decode cX6_assign 105 = .ok (.iload_n 3, 1) := by decide +kernel
theorem dX6_assign_106 : decode cX6_assign 106 = .ok (.ifCond .ne 7, 3) := by decide +kernel
theorem dX6_assign_109 : decode cX6_assign 109 = .ok (.iconst 1, 1) := by decide +kernel
theorem dX6_assign_110 : decode cX6_assign 110 = .ok (.goto 13, 3) := by decide +kernel
theorem dX6_assign_113 : decode cX6_assign 113 = .ok (.iload 4, 2) := by decide +kernel
theorem dX6_assign_115 : decode cX6_assign 115 = .ok (.ifCond .eq 7, 3) := by decide +kernel
theorem dX6_assign_118 : decode cX6_assign 118 = .ok (.iconst 0, 1) := by decide +kernel
theorem dX6_assign_119 : decode cX6_assign 119 = .ok (.goto 4, 3) := by decide +kernel
theorem dX6_assign_122 : decode cX6_assign 122 = .ok (.iconst 2, 1) := by decide +kernel
theorem dX6_assign_123 : decode cX6_assign 123 = .ok (.invokevirtual 97, 3) := by decide +kernel
theorem dX6_assign_126 : decode cX6_assign 126 = .ok (.ifCond .eq 5, 3) := by decide +kernel
theorem dX6_assign_129 : decode cX6_assign 129 = .ok (.iconst 0, 1) := by decide +kernel
theorem dX6_assign_130 : decode cX6_assign 130 = .ok (.ireturn, 1) := by decide +kernel
theorem dX6_assign_131 : decode cX6_assign 131 = .ok (.aload_n 0, 1) := by decide +kernel
theorem dX6_assign_132 : decode cX6_assign 132 = .ok (.getfield 38, 3) := by decide +kernel
theorem dX6_assign_135 : decode cX6_assign 135 = .ok (.iload_n 1, 1) := by decide +kernel
theorem dX6_assign_136 : decode cX6_assign 136 = .ok (.iload_n 2, 1) := by decide +kernel
theorem dX6_assign_137 : decode cX6_assign 137 = .ok (.iastore, 1) := by decide +kernel
theorem dX6_assign_138 : decode cX6_assign 138 = .ok (.iconst 0, 1) := by decide +kernel
theorem dX6_assign_139 : decode cX6_assign 139 = .ok (.istore 5, 2) := by decide +kernel
theorem dX6_assign_141 : decode cX6_assign 141 = .ok (.iconst 0, 1) := by decide +kernel
theorem dX6_assign_142 : decode cX6_assign 142 = .ok (.istore 6, 2) := by decide +kernel
theorem dX6_assign_144 : decode cX6_assign 144 = .ok (.iload 6, 2) := by decide +kernel
theorem dX6_assign_146 : decode cX6_assign 146 = .ok (.aload_n 0, 1) := by decide +kernel
theorem dX6_assign_147 : decode cX6_assign 147 = .ok (.getfield 87, 3) := by decide +kernel
theorem dX6_assign_150 : decode cX6_assign 150 = .ok (.if_icmp .ge 30, 3) := by decide +kernel
theorem dX6_assign_153 : decode cX6_assign 153 = .ok (.iload 5, 2) := by decide +kernel
theorem dX6_assign_155 : decode cX6_assign 155 = .ok (.aload_n 0, 1) := by decide +kernel
theorem dX6_assign_156 : decode cX6_assign 156 = .ok (.getfield 38, 3) := by decide +kernel
theorem dX6_assign_159 : decode cX6_assign 159 = .ok (.iload 6, 2) := by decide +kernel
theorem dX6_assign_161 : decode cX6_assign 161 = .ok (.iaload, 1) := by decide +kernel
theorem dX6_assign_162 : decode cX6_assign 162 = .ok (.iload_n 2, 1) := by decide +kernel
theorem dX6_assign_163 : decode cX6_assign 163 = .ok (.if_icmp .ne 7, 3) := by decide +kernel
theorem dX6_assign_166 : decode cX6_assign 166 = .ok (.iconst 1, 1) := by decide +kernel
theorem dX6_assign_167 : decode cX6_assign 167 = .ok (.goto 4, 3) := by decide +kernel
theorem dX6_assign_170 : decode cX6_assign 170 = .ok (.iconst 0, 1) := by decide +kernel
theorem dX6_assign_171 : decode cX6_assign 171 = .ok (.iadd, 1) := by decide +kernel
theorem dX6_assign_172 : decode cX6_assign 172 = .ok (.istore 5, 2) := by decide +kernel
theorem dX6_assign_174 : decode cX6_assign 174 = .ok (.iinc 6 1, 3) := by decide +kernel
theorem dX6_assign_177 : decode cX6_assign 177 = .ok (.goto (-33), 3) := by decide +kernel
theorem dX6_assign_180 : decode cX6_assign 180 = .ok (.iload 5, 2) := by decide +kernel
theorem dX6_assign_182 : decode cX6_assign 182 = .ok (.ireturn, 1) := by decide +kernel
set_option maxRecDepth 20000 in
theorem ggX6_takeOff_X6_isPerson : GoodIn wsX6_takeOff wsX6_isPerson := goodIn_r _ [6, 7, 8, 9, 5, 10, 16, 17, 18, 19, 20, 21, 22, 23, 24, 25, 26, 27, 28, 29, 30, 31, 32, 33, 34, 35, 36, 37, 38, 39, 40, 41, 42, 43] (by decide +kernel) (by decide +kernel)
set_option maxRecDepth 20000 in
theorem gX6_takeOff_X6_isPerson : GoodIn wsX6_takeOff (wsV RX6 111 RX6 yX6_isPerson wsX6_isPerson) := goodIn_app (goodIn_of _ (by decide +kernel)) ggX6_takeOff_X6_isPerson
set_option maxRecDepth 20000 in
theorem ggX6_takeOff_X6_fails : GoodIn wsX6_takeOff wsX6_fails := goodIn_r _ [14, 15, 16, 17, 18, 19, 20, 21, 22, 23, 24, 25, 26, 27, 28, 29, 30, 31, 32, 33, 34, 35, 36, 37, 38, 39, 40, 41, 42, 43] (by decide +kernel) (by decide +kernel)
set_option maxRecDepth 20000 in
theorem gX6_takeOff_X6_fails : GoodIn wsX6_takeOff (wsV RX6 97 RX6 yX6_fails wsX6_fails) := goodIn_app (goodIn_of _ (by decide +kernel)) ggX6_takeOff_X6_fails
theorem dX6_takeOff_0 : decode cX6_takeOff 0 = .ok (.aload_n 0, 1) := by decide +kernel
theorem dX6_takeOff_1 : decode cX6_takeOff 1 = .ok (.iload_n 1, 1) := by decide +kernel
theorem dX6_takeOff_2 : decode cX6_takeOff 2 = .ok (.invokevirtual 111, 3) := by decide +kernel
theorem dX6_takeOff_5 : decode cX6_takeOff 5 = .ok (.istore_n 2, 1) := by decide +kernel
theorem dX6_takeOff_6 : decode cX6_takeOff 6 = .ok (.aload_n 0, 1) := by decide +kernel
theorem dX6_takeOff_7 : decode cX6_takeOff 7 = .ok (.iload_n 2, 1) := by decide +kernel
theorem dX6_takeOff_8 : decode cX6_takeOff 8 = .ok (.ifCond .ne 7, 3) := by decide +kernel
theorem dX6_takeOff_11 : decode cX6_takeOff 11 = .ok (.iconst 1, 1) := by decide +kernel
theorem dX6_takeOff_12 : decode cX6_takeOff 12 = .ok (.goto 18, 3) := by decide +kernel
theorem dX6_takeOff_15 : decode cX6_takeOff 15 = .ok (.aload_n 0, 1) := by decide +kernel
theorem dX6_takeOff_16 : decode cX6_takeOff 16 = .ok (.getfield 38, 3) := by decide +kernel
theorem dX6_takeOff_19 : decode cX6_takeOff 19 = .ok (.iload_n 1, 1) := by decide +kernel
theorem dX6_takeOff_20 : decode cX6_takeOff 20 = .ok (.iaload, 1) := by decide +kernel
theorem dX6_takeOff_21 : decode cX6_takeOff 21 = .ok (.iconst (-1), 1) := by decide +kernel
theorem dX6_takeOff_22 : decode cX6_takeOff 22 = .ok (.if_icmp .ne 7, 3) := by decide +kernel
theorem dX6_takeOff_25 : decode cX6_takeOff 25 = .ok (.iconst 2, 1) := by decide +kernel
theorem dX6_takeOff_26 : decode cX6_takeOff 26 = .ok (.goto 4, 3) := by decide +kernel
theorem dX6_takeOff_29 : decode cX6_takeOff 29 = .ok (.iconst 0, 1) := by decide +kernel
theorem dX6_takeOff_30 : decode cX6_takeOff 30 = .ok (.invokevirtual 97, 3) := by decide +kernel
theorem dX6_takeOff_33 : decode cX6_takeOff 33 = .ok (.ifCond .eq 5, 3) := by decide +kernel
theorem dX6_takeOff_36 : decode cX6_takeOff 36 = .ok (.iconst 0, 1) := by decide +kernel
theorem dX6_takeOff_37 : decode cX6_takeOff 37 = .ok (.ireturn, 1) := by decide +kernel
theorem dX6_takeOff_38 : decode cX6_takeOff 38 = .ok (.aload_n 0, 1) := by decide +kernel
theorem dX6_takeOff_39 : decode cX6_takeOff 39 = .ok (.getfield 38, 3) := by decide +kernel
theorem dX6_takeOff_42 : decode cX6_takeOff 42 = .ok (.iload_n 1, 1) := by decide +kernel
theorem dX6_takeOff_43 : decode cX6_takeOff 43 = .ok (.iaload, 1) := by decide +kernel
theorem dX6_takeOff_44 : decode cX6_takeOff 44 = .ok (.istore_n 3, 1) := by decide +kernel
theorem dX6_takeOff_45 : decode cX6_takeOff 45 = .ok (.aload_n 0, 1) := by decide +kernel
theorem dX6_takeOff_46 : decode cX6_takeOff 46 = .ok (.getfield 38, 3) := by decide +kernel
theorem dX6_takeOff_49 : decode cX6_takeOff 49 = .ok (.iload_n 1, 1) := by decide +kernel
theorem dX6_takeOff_50 : decode cX6_takeOff 50 = .ok (.iconst (-1), 1) := by decide +kernel
theorem dX6_takeOff_51 : decode cX6_takeOff 51 = .ok (.iastore, 1) := by decide +kernel
theorem dX6_takeOff_52 : decode cX6_takeOff 52 = .ok (.iload_n 3, 1) := by decide +kernel
theorem dX6_takeOff_53 : decode cX6_takeOff 53 = .ok (.ireturn, 1) := by decide +kernel
set_option maxRecDepth 20000 in
theorem ggX6_orderOf_X6_of : GoodIn wsX6_orderOf wsX6_of := goodIn_r _ [6, 7, 8, 9, 5, 10, 11, 12, 13, 14, 15, 16, 17, 18, 19, 20, 21, 22, 23, 24, 25, 26, 27, 28, 29, 30, 31, 32, 33, 34, 35, 36, 37, 38, 39, 40, 41, 42, 43, 44, 45, 46, 47] (by decide +kernel) (by decide +kernel)
set_option maxRecDepth 20000 in
theorem gX6_orderOf_X6_of : GoodIn wsX6_orderOf (wsV RX6 121 RX6 yX6_of wsX6_of) := goodIn_app (goodIn_of _ (by decide +kernel)) ggX6_orderOf_X6_of
theorem dX6_orderOf_0 : decode cX6_orderOf 0 = .ok (.aload_n 0, 1) := by decide +kernel
theorem dX6_orderOf_1 : decode cX6_orderOf 1 = .ok (.aload_n 0, 1) := by decide +kernel
theorem dX6_orderOf_2 : decode cX6_orderOf 2 = .ok (.getfield 38, 3) := by decide +kernel
theorem dX6_orderOf_5 : decode cX6_orderOf 5 = .ok (.iload_n 1, 1) := by decide +kernel
theorem dX6_orderOf_6 : decode cX6_orderOf 6 = .ok (.invokevirtual 121, 3) := by decide +kernel
theorem dX6_orderOf_9 : decode cX6_orderOf 9 = .ok (.ireturn, 1) := by decide +kernel
set_option maxRecDepth 20000 in
theorem ggX6_left_X6_isOrder : GoodIn wsX6_left wsX6_isOrder := goodIn_r _ [6, 7, 8, 9, 5, 10, 16, 17, 18, 19, 20, 21, 22, 23, 24, 25, 26, 27, 28, 29, 30, 31, 32, 33, 34, 35, 36, 37, 38, 39, 40, 41, 42, 43] (by decide +kernel) (by decide +kernel)
set_option maxRecDepth 20000 in
theorem gX6_left_X6_isOrder : GoodIn wsX6_left (wsV RX6 131 RX6 yX6_isOrder wsX6_isOrder) := goodIn_app (goodIn_of _ (by decide +kernel)) ggX6_left_X6_isOrder
set_option maxRecDepth 20000 in
theorem ggX6_left_X6_fails : GoodIn wsX6_left wsX6_fails := goodIn_r _ [14, 15, 16, 17, 18, 19, 20, 21, 22, 23, 24, 25, 26, 27, 28, 29, 30, 31, 32, 33, 34, 35, 36, 37, 38, 39, 40, 41, 42, 43] (by decide +kernel) (by decide +kernel)
set_option maxRecDepth 20000 in
theorem gX6_left_X6_fails : GoodIn wsX6_left (wsV RX6 97 RX6 yX6_fails wsX6_fails) := goodIn_app (goodIn_of _ (by decide +kernel)) ggX6_left_X6_fails
theorem dX6_left_0 : decode cX6_left 0 = .ok (.aload_n 0, 1) := by decide +kernel
theorem dX6_left_1 : decode cX6_left 1 = .ok (.aload_n 0, 1) := by decide +kernel
theorem dX6_left_2 : decode cX6_left 2 = .ok (.iload_n 1, 1) := by decide +kernel
theorem dX6_left_3 : decode cX6_left 3 = .ok (.invokevirtual 131, 3) := by decide +kernel
theorem dX6_left_6 : decode cX6_left 6 = .ok (.ifCond .eq 7, 3) := by decide +kernel
theorem dX6_left_9 : decode cX6_left 9 = .ok (.iconst 0, 1) := by decide +kernel
theorem dX6_left_10 : decode cX6_left 10 = .ok (.goto 4, 3) := by decide +kernel
theorem dX6_left_13 : decode cX6_left 13 = .ok (.iconst 1, 1) := by decide +kernel
theorem dX6_left_14 : decode cX6_left 14 = .ok (.invokevirtual 97, 3) := by decide +kernel
theorem dX6_left_17 : decode cX6_left 17 = .ok (.ifCond .eq 7, 3) := by decide +kernel
theorem dX6_left_20 : decode cX6_left 20 = .ok (.iconst 0, 1) := by decide +kernel
theorem dX6_left_21 : decode cX6_left 21 = .ok (.goto 9, 3) := by decide +kernel
theorem dX6_left_24 : decode cX6_left 24 = .ok (.aload_n 0, 1) := by decide +kernel
theorem dX6_left_25 : decode cX6_left 25 = .ok (.getfield 77, 3) := by decide +kernel
theorem dX6_left_28 : decode cX6_left 28 = .ok (.iload_n 1, 1) := by decide +kernel
theorem dX6_left_29 : decode cX6_left 29 = .ok (.iaload, 1) := by decide +kernel
theorem dX6_left_30 : decode cX6_left 30 = .ok (.ireturn, 1) := by decide +kernel
set_option maxRecDepth 20000 in
theorem ggX6_account_X6_isPerson : GoodIn wsX6_account wsX6_isPerson := goodIn_r _ [6, 7, 8, 9, 5, 10, 16, 17, 18, 19, 20, 21, 22, 23, 24, 25, 26, 27, 28, 29, 30, 31, 32, 33, 34, 35, 36, 37, 38, 39, 40, 41, 42, 43] (by decide +kernel) (by decide +kernel)
set_option maxRecDepth 20000 in
theorem gX6_account_X6_isPerson : GoodIn wsX6_account (wsV RX6 111 RX6 yX6_isPerson wsX6_isPerson) := goodIn_app (goodIn_of _ (by decide +kernel)) ggX6_account_X6_isPerson
set_option maxRecDepth 20000 in
theorem ggX6_account_X6_lies : GoodIn wsX6_account wsX6_lies := goodIn_r _ [10] (by decide +kernel) (by decide +kernel)
set_option maxRecDepth 20000 in
theorem gX6_account_X6_lies : GoodIn wsX6_account (va_wsS RX6 90 yX6_lies wsX6_lies) := goodIn_app (goodIn_of _ (by decide +kernel)) ggX6_account_X6_lies
set_option maxRecDepth 20000 in
theorem ggX6_account_X6_fails : GoodIn wsX6_account wsX6_fails := goodIn_r _ [14, 15, 16, 17, 18, 19, 20, 21, 22, 23, 24, 25, 26, 27, 28, 29, 30, 31, 32, 33, 34, 35, 36, 37, 38, 39, 40, 41, 42, 43] (by decide +kernel) (by decide +kernel)
set_option maxRecDepth 20000 in
theorem gX6_account_X6_fails : GoodIn wsX6_account (wsV RX6 97 RX6 yX6_fails wsX6_fails) := goodIn_app (goodIn_of _ (by decide +kernel)) ggX6_account_X6_fails
theorem dX6_account_0 : decode cX6_account 0 = .ok (.aload_n 0, 1) := by decide +kernel
theorem dX6_account_1 : decode cX6_account 1 = .ok (.iload_n 1, 1) := by decide +kernel
theorem dX6_account_2 : decode cX6_account 2 = .ok (.invokevirtual 111, 3) := by decide +kernel
theorem dX6_account_5 : decode cX6_account 5 = .ok (.ifCond .eq 16, 3) := by decide +kernel
theorem dX6_account_8 : decode cX6_account 8 = .ok (.iload_n 2, 1) := by decide +kernel
theorem dX6_account_9 : decode cX6_account 9 = .ok (.iconst 0, 1) := by decide +kernel
theorem dX6_account_10 : decode cX6_account 10 = .ok (.iconst 3, 1) := by decide +kernel
theorem dX6_account_11 : decode cX6_account 11 = .ok (.invokestatic 90, 3) := by decide +kernel
theorem dX6_account_14 : decode cX6_account 14 = .ok (.ifCond .eq 7, 3) := by decide +kernel
theorem dX6_account_17 : decode cX6_account 17 = .ok (.iconst 1, 1) := by decide +kernel
theorem dX6_account_18 : decode cX6_account 18 = .ok (.goto 4, 3) := by decide +kernel
theorem dX6_account_21 : decode cX6_account 21 = .ok (.iconst 0, 1) := by decide +kernel
theorem dX6_account_22 : decode cX6_account 22 = .ok (.istore_n 3, 1) := by decide +kernel
theorem dX6_account_23 : decode cX6_account 23 = .ok (.aload_n 0, 1) := by decide +kernel
theorem dX6_account_24 : decode cX6_account 24 = .ok (.iload_n 3, 1) := by decide +kernel
theorem dX6_account_25 : decode cX6_account 25 = .ok (.ifCond .eq 7, 3) := by decide +kernel
theorem dX6_account_28 : decode cX6_account 28 = .ok (.iconst 0, 1) := by decide +kernel
theorem dX6_account_29 : decode cX6_account 29 = .ok (.goto 4, 3) := by decide +kernel
theorem dX6_account_32 : decode cX6_account 32 = .ok (.iconst 1, 1) := by decide +kernel
theorem dX6_account_33 : decode cX6_account 33 = .ok (.invokevirtual 97, 3) := by decide +kernel
theorem dX6_account_36 : decode cX6_account 36 = .ok (.ifCond .eq 7, 3) := by decide +kernel
theorem dX6_account_39 : decode cX6_account 39 = .ok (.iconst 0, 1) := by decide +kernel
theorem dX6_account_40 : decode cX6_account 40 = .ok (.goto 13, 3) := by decide +kernel
theorem dX6_account_43 : decode cX6_account 43 = .ok (.aload_n 0, 1) := by decide +kernel
theorem dX6_account_44 : decode cX6_account 44 = .ok (.getfield 47, 3) := by decide +kernel
theorem dX6_account_47 : decode cX6_account 47 = .ok (.iconst 4, 1) := by decide +kernel
theorem dX6_account_48 : decode cX6_account 48 = .ok (.iload_n 1, 1) := by decide +kernel
theorem dX6_account_49 : decode cX6_account 49 = .ok (.imul, 1) := by decide +kernel
theorem dX6_account_50 : decode cX6_account 50 = .ok (.iload_n 2, 1) := by decide +kernel
theorem dX6_account_51 : decode cX6_account 51 = .ok (.iadd, 1) := by decide +kernel
theorem dX6_account_52 : decode cX6_account 52 = .ok (.iaload, 1) := by decide +kernel
theorem dX6_account_53 : decode cX6_account 53 = .ok (.ireturn, 1) := by decide +kernel
theorem dX6_rest_0 : decode cX6_rest 0 = .ok (.bipush 20, 2) := by decide +kernel
theorem dX6_rest_2 : decode cX6_rest 2 = .ok (.aload_n 0, 1) := by decide +kernel
theorem dX6_rest_3 : decode cX6_rest 3 = .ok (.getfield 23, 3) := by decide +kernel
theorem dX6_rest_6 : decode cX6_rest 6 = .ok (.iload_n 1, 1) := by decide +kernel
theorem dX6_rest_7 : decode cX6_rest 7 = .ok (.iaload, 1) := by decide +kernel
theorem dX6_rest_8 : decode cX6_rest 8 = .ok (.imul, 1) := by decide +kernel
theorem dX6_rest_9 : decode cX6_rest 9 = .ok (.bipush 10, 2) := by decide +kernel
theorem dX6_rest_11 : decode cX6_rest 11 = .ok (.iadd, 1) := by decide +kernel
theorem dX6_rest_12 : decode cX6_rest 12 = .ok (.istore_n 2, 1) := by decide +kernel
theorem dX6_rest_13 : decode cX6_rest 13 = .ok (.bipush 50, 2) := by decide +kernel
theorem dX6_rest_15 : decode cX6_rest 15 = .ok (.iload_n 1, 1) := by decide +kernel
theorem dX6_rest_16 : decode cX6_rest 16 = .ok (.imul, 1) := by decide +kernel
theorem dX6_rest_17 : decode cX6_rest 17 = .ok (.istore_n 3, 1) := by decide +kernel
theorem dX6_rest_18 : decode cX6_rest 18 = .ok (.iload_n 3, 1) := by decide +kernel
theorem dX6_rest_19 : decode cX6_rest 19 = .ok (.bipush 50, 2) := by decide +kernel
theorem dX6_rest_21 : decode cX6_rest 21 = .ok (.iload_n 1, 1) := by decide +kernel
theorem dX6_rest_22 : decode cX6_rest 22 = .ok (.imul, 1) := by decide +kernel
theorem dX6_rest_23 : decode cX6_rest 23 = .ok (.aload_n 0, 1) := by decide +kernel
theorem dX6_rest_24 : decode cX6_rest 24 = .ok (.getfield 35, 3) := by decide +kernel
theorem dX6_rest_27 : decode cX6_rest 27 = .ok (.iload_n 1, 1) := by decide +kernel
theorem dX6_rest_28 : decode cX6_rest 28 = .ok (.iaload, 1) := by decide +kernel
theorem dX6_rest_29 : decode cX6_rest 29 = .ok (.iadd, 1) := by decide +kernel
theorem dX6_rest_30 : decode cX6_rest 30 = .ok (.if_icmp .ge 42, 3) := by decide +kernel
theorem dX6_rest_33 : decode cX6_rest 33 = .ok (.iload_n 2, 1) := by decide +kernel
theorem dX6_rest_34 : decode cX6_rest 34 = .ok (.aload_n 0, 1) := by decide +kernel
theorem dX6_rest_35 : decode cX6_rest 35 = .ok (.getfield 65, 3) := by decide +kernel
theorem dX6_rest_38 : decode cX6_rest 38 = .ok (.iload_n 3, 1) := by decide +kernel
theorem dX6_rest_39 : decode cX6_rest 39 = .ok (.baload, 1) := by decide +kernel
theorem dX6_rest_40 : decode cX6_rest 40 = .ok (.ifCond .ne 23, 3) := by decide +kernel
theorem dX6_rest_43 : decode cX6_rest 43 = .ok (.aload_n 0, 1) := by decide +kernel
theorem dX6_rest_44 : decode cX6_rest 44 = .ok (.getfield 101, 3) := by decide +kernel
theorem dX6_rest_47 : decode cX6_rest 47 = .ok (.aload_n 0, 1) := by decide +kernel
theorem dX6_rest_48 : decode cX6_rest 48 = .ok (.getfield 59, 3) := by decide +kernel
theorem dX6_rest_51 : decode cX6_rest 51 = .ok (.iload_n 3, 1) := by decide +kernel
theorem dX6_rest_52 : decode cX6_rest 52 = .ok (.iaload, 1) := by decide +kernel
theorem dX6_rest_53 : decode cX6_rest 53 = .ok (.isub, 1) := by decide +kernel
theorem dX6_rest_54 : decode cX6_rest 54 = .ok (.bipush 29, 2) := by decide +kernel
theorem dX6_rest_56 : decode cX6_rest 56 = .ok (.if_icmp .gt 7, 3) := by decide +kernel
theorem dX6_rest_59 : decode cX6_rest 59 = .ok (.iconst 5, 1) := by decide +kernel
theorem dX6_rest_60 : decode cX6_rest 60 = .ok (.goto 4, 3) := by decide +kernel
theorem dX6_rest_63 : decode cX6_rest 63 = .ok (.iconst 0, 1) := by decide +kernel
theorem dX6_rest_64 : decode cX6_rest 64 = .ok (.isub, 1) := by decide +kernel
theorem dX6_rest_65 : decode cX6_rest 65 = .ok (.istore_n 2, 1) := by decide +kernel
theorem dX6_rest_66 : decode cX6_rest 66 = .ok (.iinc 3 1, 3) := by decide +kernel
theorem dX6_rest_69 : decode cX6_rest 69 = .ok (.goto (-51), 3) := by decide +kernel
theorem dX6_rest_72 : decode cX6_rest 72 = .ok (.aload_n 0, 1) := by decide +kernel
theorem dX6_rest_73 : decode cX6_rest 73 = .ok (.getfield 50, 3) := by decide +kernel
theorem dX6_rest_76 : decode cX6_rest 76 = .ok (.iload_n 1, 1) := by decide +kernel
theorem dX6_rest_77 : decode cX6_rest 77 = .ok (.iaload, 1) := by decide +kernel
theorem dX6_rest_78 : decode cX6_rest 78 = .ok (.aload_n 0, 1) := by decide +kernel
theorem dX6_rest_79 : decode cX6_rest 79 = .ok (.getfield 101, 3) := by decide +kernel
theorem dX6_rest_82 : decode cX6_rest 82 = .ok (.bipush 7, 2) := by decide +kernel
theorem dX6_rest_84 : decode cX6_rest 84 = .ok (.idiv, 1) := by decide +kernel
theorem dX6_rest_85 : decode cX6_rest 85 = .ok (.if_icmp .ne 12, 3) := by decide +kernel
theorem dX6_rest_88 : decode cX6_rest 88 = .ok (.aload_n 0, 1) := by decide +kernel
theorem dX6_rest_89 : decode cX6_rest 89 = .ok (.getfield 53, 3) := by decide +kernel
theorem dX6_rest_92 : decode cX6_rest 92 = .ok (.iload_n 1, 1) := by decide +kernel
theorem dX6_rest_93 : decode cX6_rest 93 = .ok (.iaload, 1) := by decide +kernel
theorem dX6_rest_94 : decode cX6_rest 94 = .ok (.goto 4, 3) := by decide +kernel
theorem dX6_rest_97 : decode cX6_rest 97 = .ok (.iconst 0, 1) := by decide +kernel
theorem dX6_rest_98 : decode cX6_rest 98 = .ok (.istore_n 3, 1) := by decide +kernel
theorem dX6_rest_99 : decode cX6_rest 99 = .ok (.iload_n 2, 1) := by decide +kernel
theorem dX6_rest_100 : decode cX6_rest 100 = .ok (.ifCond .ge 7, 3) := by decide +kernel
theorem dX6_rest_103 : decode cX6_rest 103 = .ok (.iconst 0, 1) := by decide +kernel
theorem dX6_rest_104 : decode cX6_rest 104 = .ok (.goto 4, 3) := by decide +kernel
theorem dX6_rest_107 : decode cX6_rest 107 = .ok (.iload_n 2, 1) := by decide +kernel
theorem dX6_rest_108 : decode cX6_rest 108 = .ok (.istore_n 2, 1) := by decide +kernel
theorem dX6_rest_109 : decode cX6_rest 109 = .ok (.aload_n 0, 1) := by decide +kernel
theorem dX6_rest_110 : decode cX6_rest 110 = .ok (.getfield 7, 3) := by decide +kernel
theorem dX6_rest_113 : decode cX6_rest 113 = .ok (.iload_n 1, 1) := by decide +kernel
theorem dX6_rest_114 : decode cX6_rest 114 = .ok (.baload, 1) := by decide +kernel
theorem dX6_rest_115 : decode cX6_rest 115 = .ok (.ifCond .ne 8, 3) := by decide +kernel
theorem dX6_rest_118 : decode cX6_rest 118 = .ok (.iload_n 2, 1) := by decide +kernel
theorem dX6_rest_119 : decode cX6_rest 119 = .ok (.iload_n 3, 1) := by decide +kernel
theorem dX6_rest_120 : decode cX6_rest 120 = .ok (.if_icmp .ge 7, 3) := by decide +kernel
theorem dX6_rest_123 : decode cX6_rest 123 = .ok (.iconst 0, 1) := by decide +kernel
theorem dX6_rest_124 : decode cX6_rest 124 = .ok (.goto 6, 3) := by decide +kernel
theorem dX6_rest_127 : decode cX6_rest 127 = .ok (.iload_n 2, 1) := by decide +kernel
theorem dX6_rest_128 : decode cX6_rest 128 = .ok (.iload_n 3, 1) := by decide +kernel
theorem dX6_rest_129 : decode cX6_rest 129 = .ok (.isub, 1) := by decide +kernel
theorem dX6_rest_130 : decode cX6_rest 130 = .ok (.ireturn, 1) := by decide +kernel
set_option maxRecDepth 20000 in
theorem ggX6_buy_X6_isPerson : GoodIn wsX6_buy wsX6_isPerson := goodIn_r _ [10, 11, 12, 13, 9, 14, 28, 29, 30, 31, 32, 33, 34, 35, 36, 37, 38, 39, 40, 41, 42, 43, 44, 45, 46, 47, 48, 49, 50, 51, 52, 53, 54, 55] (by decide +kernel) (by decide +kernel)
set_option maxRecDepth 20000 in
theorem gX6_buy_X6_isPerson : GoodIn wsX6_buy (wsV RX6 111 RX6 yX6_isPerson wsX6_isPerson) := goodIn_app (goodIn_of _ (by decide +kernel)) ggX6_buy_X6_isPerson
set_option maxRecDepth 20000 in
theorem ggX6_buy_X6_lies : GoodIn wsX6_buy wsX6_lies := goodIn_r _ [14] (by decide +kernel) (by decide +kernel)
set_option maxRecDepth 20000 in
theorem gX6_buy_X6_lies : GoodIn wsX6_buy (va_wsS RX6 90 yX6_lies wsX6_lies) := goodIn_app (goodIn_of _ (by decide +kernel)) ggX6_buy_X6_lies
set_option maxRecDepth 20000 in
theorem ggX6_buy_X6_rest : GoodIn wsX6_buy wsX6_rest := goodIn_r _ [18, 19, 20, 21, 5, 22, 4, 3, 1, 28, 29, 30, 31, 32, 33, 34, 35, 36, 37, 38, 39, 40, 41, 42, 43, 44, 45, 46, 47, 48, 49, 50, 51, 52, 53, 54, 55] (by decide +kernel) (by decide +kernel)
set_option maxRecDepth 20000 in
theorem gX6_buy_X6_rest : GoodIn wsX6_buy (wsV RX6 134 RX6 yX6_rest wsX6_rest) := goodIn_app (goodIn_of _ (by decide +kernel)) ggX6_buy_X6_rest
set_option maxRecDepth 20000 in
theorem ggX6_buy_X6_fails : GoodIn wsX6_buy wsX6_fails := goodIn_r _ [26, 27, 28, 29, 30, 31, 32, 33, 34, 35, 36, 37, 38, 39, 40, 41, 42, 43, 44, 45, 46, 47, 48, 49, 50, 51, 52, 53, 54, 55] (by decide +kernel) (by decide +kernel)
set_option maxRecDepth 20000 in
theorem gX6_buy_X6_fails : GoodIn wsX6_buy (wsV RX6 97 RX6 yX6_fails wsX6_fails) := goodIn_app (goodIn_of _ (by decide +kernel)) ggX6_buy_X6_fails
theorem dX6_buy_0 : decode cX6_buy 0 = .ok (.aload_n 0, 1) := by decide +kernel
theorem dX6_buy_1 : decode cX6_buy 1 = .ok (.iload_n 1, 1) := by decide +kernel
theorem dX6_buy_2 : decode cX6_buy 2 = .ok (.invokevirtual 111, 3) := by decide +kernel
theorem dX6_buy_5 : decode cX6_buy 5 = .ok (.istore_n 3, 1) := by decide +kernel
theorem dX6_buy_6 : decode cX6_buy 6 = .ok (.iload_n 2, 1) := by decide +kernel
theorem dX6_buy_7 : decode cX6_buy 7 = .ok (.iconst 1, 1) := by decide +kernel
theorem dX6_buy_8 : decode cX6_buy 8 = .ok (.sipush 1000, 3) := by decide +kernel
theorem dX6_buy_11 : decode cX6_buy 11 = .ok (.invokestatic 90, 3) := by decide +kernel
theorem dX6_buy_14 : decode cX6_buy 14 = .ok (.istore 4, 2) := by decide +kernel
theorem dX6_buy_16 : decode cX6_buy 16 = .ok (.iload_n 3, 1) := by decide +kernel
theorem dX6_buy_17 : decode cX6_buy 17 = .ok (.ifCond .eq 44, 3) := by decide +kernel
theorem dX6_buy_20 : decode cX6_buy 20 = .ok (.iload 4, 2) := by decide +kernel
theorem dX6_buy_22 : decode cX6_buy 22 = .ok (.ifCond .eq 39, 3) := by decide +kernel
theorem dX6_buy_25 : decode cX6_buy 25 = .ok (.aload_n 0, 1) := by decide +kernel
theorem dX6_buy_26 : decode cX6_buy 26 = .ok (.getfield 7, 3) := by decide +kernel
theorem dX6_buy_29 : decode cX6_buy 29 = .ok (.iload_n 1, 1) := by decide +kernel
theorem dX6_buy_30 : decode cX6_buy 30 = .ok (.baload, 1) := by decide +kernel
theorem dX6_buy_31 : decode cX6_buy 31 = .ok (.ifCond .ne 30, 3) := by decide +kernel
theorem dX6_buy_34 : decode cX6_buy 34 = .ok (.aload_n 0, 1) := by decide +kernel
theorem dX6_buy_35 : decode cX6_buy 35 = .ok (.getfield 47, 3) := by decide +kernel
theorem dX6_buy_38 : decode cX6_buy 38 = .ok (.iconst 4, 1) := by decide +kernel
theorem dX6_buy_39 : decode cX6_buy 39 = .ok (.iload_n 1, 1) := by decide +kernel
theorem dX6_buy_40 : decode cX6_buy 40 = .ok (.imul, 1) := by decide +kernel
theorem dX6_buy_41 : decode cX6_buy 41 = .ok (.iconst 3, 1) := by decide +kernel
theorem dX6_buy_42 : decode cX6_buy 42 = .ok (.iadd, 1) := by decide +kernel
theorem dX6_buy_43 : decode cX6_buy 43 = .ok (.iaload, 1) := by decide +kernel
theorem dX6_buy_44 : decode cX6_buy 44 = .ok (.iload_n 2, 1) := by decide +kernel
theorem dX6_buy_45 : decode cX6_buy 45 = .ok (.if_icmp .lt 16, 3) := by decide +kernel
theorem dX6_buy_48 : decode cX6_buy 48 = .ok (.iload_n 2, 1) := by decide +kernel
theorem dX6_buy_49 : decode cX6_buy 49 = .ok (.aload_n 0, 1) := by decide +kernel
theorem dX6_buy_50 : decode cX6_buy 50 = .ok (.iload_n 1, 1) := by decide +kernel
theorem dX6_buy_51 : decode cX6_buy 51 = .ok (.invokevirtual 134, 3) := by decide +kernel
theorem dX6_buy_54 : decode cX6_buy 54 = .ok (.if_icmp .gt 7, 3) := by decide +kernel
theorem dX6_buy_57 : decode cX6_buy 57 = .ok (.iconst 1, 1) := by decide +kernel
theorem dX6_buy_58 : decode cX6_buy 58 = .ok (.goto 4, 3) := by decide +kernel
theorem dX6_buy_61 : decode cX6_buy 61 = .ok (.iconst 0, 1) := by decide +kernel
theorem dX6_buy_62 : decode cX6_buy 62 = .ok (.istore 5, 2) := by decide +kernel
theorem dX6_buy_64 : decode cX6_buy 64 = .ok (.aload_n 0, 1) := by decide +kernel
theorem dX6_buy_65 : decode cX6_buy 65 = .ok (.iload_n 3, 1) := by decide +kernel
theorem dX6_buy_66 : decode cX6_buy 66 = .ok (.ifCond .ne 7, 3) := by decide +kernel
theorem dX6_buy_69 : decode cX6_buy 69 = .ok (.iconst 1, 1) := by decide +kernel
theorem dX6_buy_70 : decode cX6_buy 70 = .ok (.goto 22, 3) := by decide +kernel
theorem dX6_buy_73 : decode cX6_buy 73 = .ok (.iload 4, 2) := by decide +kernel
theorem dX6_buy_75 : decode cX6_buy 75 = .ok (.ifCond .ne 7, 3) := by decide +kernel
theorem dX6_buy_78 : decode cX6_buy 78 = .ok (.iconst 2, 1) := by decide +kernel
theorem dX6_buy_79 : decode cX6_buy 79 = .ok (.goto 13, 3) := by decide +kernel
theorem dX6_buy_82 : decode cX6_buy 82 = .ok (.iload 5, 2) := by decide +kernel
theorem dX6_buy_84 : decode cX6_buy 84 = .ok (.ifCond .eq 7, 3) := by decide +kernel
theorem dX6_buy_87 : decode cX6_buy 87 = .ok (.iconst 0, 1) := by decide +kernel
theorem dX6_buy_88 : decode cX6_buy 88 = .ok (.goto 4, 3) := by decide +kernel
theorem dX6_buy_91 : decode cX6_buy 91 = .ok (.iconst 3, 1) := by decide +kernel
theorem dX6_buy_92 : decode cX6_buy 92 = .ok (.invokevirtual 97, 3) := by decide +kernel
theorem dX6_buy_95 : decode cX6_buy 95 = .ok (.ifCond .eq 5, 3) := by decide +kernel
theorem dX6_buy_98 : decode cX6_buy 98 = .ok (.iconst 0, 1) := by decide +kernel
theorem dX6_buy_99 : decode cX6_buy 99 = .ok (.ireturn, 1) := by decide +kernel
theorem dX6_buy_100 : decode cX6_buy 100 = .ok (.aload_n 0, 1) := by decide +kernel
theorem dX6_buy_101 : decode cX6_buy 101 = .ok (.getfield 53, 3) := by decide +kernel
theorem dX6_buy_104 : decode cX6_buy 104 = .ok (.iload_n 1, 1) := by decide +kernel
theorem dX6_buy_105 : decode cX6_buy 105 = .ok (.aload_n 0, 1) := by decide +kernel
theorem dX6_buy_106 : decode cX6_buy 106 = .ok (.getfield 50, 3) := by decide +kernel
theorem dX6_buy_109 : decode cX6_buy 109 = .ok (.iload_n 1, 1) := by decide +kernel
theorem dX6_buy_110 : decode cX6_buy 110 = .ok (.iaload, 1) := by decide +kernel
theorem dX6_buy_111 : decode cX6_buy 111 = .ok (.aload_n 0, 1) := by decide +kernel
theorem dX6_buy_112 : decode cX6_buy 112 = .ok (.getfield 101, 3) := by decide +kernel
theorem dX6_buy_115 : decode cX6_buy 115 = .ok (.bipush 7, 2) := by decide +kernel
theorem dX6_buy_117 : decode cX6_buy 117 = .ok (.idiv, 1) := by decide +kernel
theorem dX6_buy_118 : decode cX6_buy 118 = .ok (.if_icmp .ne 12, 3) := by decide +kernel
theorem dX6_buy_121 : decode cX6_buy 121 = .ok (.aload_n 0, 1) := by decide +kernel
theorem dX6_buy_122 : decode cX6_buy 122 = .ok (.getfield 53, 3) := by decide +kernel
theorem dX6_buy_125 : decode cX6_buy 125 = .ok (.iload_n 1, 1) := by decide +kernel
theorem dX6_buy_126 : decode cX6_buy 126 = .ok (.iaload, 1) := by decide +kernel
theorem dX6_buy_127 : decode cX6_buy 127 = .ok (.goto 4, 3) := by decide +kernel
theorem dX6_buy_130 : decode cX6_buy 130 = .ok (.iconst 0, 1) := by decide +kernel
theorem dX6_buy_131 : decode cX6_buy 131 = .ok (.iload_n 2, 1) := by decide +kernel
theorem dX6_buy_132 : decode cX6_buy 132 = .ok (.iadd, 1) := by decide +kernel
theorem dX6_buy_133 : decode cX6_buy 133 = .ok (.iastore, 1) := by decide +kernel
theorem dX6_buy_134 : decode cX6_buy 134 = .ok (.aload_n 0, 1) := by decide +kernel
theorem dX6_buy_135 : decode cX6_buy 135 = .ok (.getfield 50, 3) := by decide +kernel
theorem dX6_buy_138 : decode cX6_buy 138 = .ok (.iload_n 1, 1) := by decide +kernel
theorem dX6_buy_139 : decode cX6_buy 139 = .ok (.aload_n 0, 1) := by decide +kernel
theorem dX6_buy_140 : decode cX6_buy 140 = .ok (.getfield 101, 3) := by decide +kernel
theorem dX6_buy_143 : decode cX6_buy 143 = .ok (.bipush 7, 2) := by decide +kernel
theorem dX6_buy_145 : decode cX6_buy 145 = .ok (.idiv, 1) := by decide +kernel
theorem dX6_buy_146 : decode cX6_buy 146 = .ok (.iastore, 1) := by decide +kernel
theorem dX6_buy_147 : decode cX6_buy 147 = .ok (.aload_n 0, 1) := by decide +kernel
theorem dX6_buy_148 : decode cX6_buy 148 = .ok (.getfield 47, 3) := by decide +kernel
theorem dX6_buy_151 : decode cX6_buy 151 = .ok (.iconst 4, 1) := by decide +kernel
theorem dX6_buy_152 : decode cX6_buy 152 = .ok (.iload_n 1, 1) := by decide +kernel
theorem dX6_buy_153 : decode cX6_buy 153 = .ok (.imul, 1) := by decide +kernel
theorem dX6_buy_154 : decode cX6_buy 154 = .ok (.iconst 3, 1) := by decide +kernel
theorem dX6_buy_155 : decode cX6_buy 155 = .ok (.iadd, 1) := by decide +kernel
theorem dX6_buy_156 : decode cX6_buy 156 = .ok (.dup2, 1) := by decide +kernel
theorem dX6_buy_157 : decode cX6_buy 157 = .ok (.iaload, 1) := by decide +kernel
theorem dX6_buy_158 : decode cX6_buy 158 = .ok (.iload_n 2, 1) := by decide +kernel
theorem dX6_buy_159 : decode cX6_buy 159 = .ok (.isub, 1) := by decide +kernel
theorem dX6_buy_160 : decode cX6_buy 160 = .ok (.iastore, 1) := by decide +kernel
theorem dX6_buy_161 : decode cX6_buy 161 = .ok (.aload_n 0, 1) := by decide +kernel
theorem dX6_buy_162 : decode cX6_buy 162 = .ok (.getfield 47, 3) := by decide +kernel
theorem dX6_buy_165 : decode cX6_buy 165 = .ok (.iconst 4, 1) := by decide +kernel
theorem dX6_buy_166 : decode cX6_buy 166 = .ok (.iload_n 1, 1) := by decide +kernel
theorem dX6_buy_167 : decode cX6_buy 167 = .ok (.imul, 1) := by decide +kernel
theorem dX6_buy_168 : decode cX6_buy 168 = .ok (.iconst 3, 1) := by decide +kernel
theorem dX6_buy_169 : decode cX6_buy 169 = .ok (.iadd, 1) := by decide +kernel
theorem dX6_buy_170 : decode cX6_buy 170 = .ok (.iaload, 1) := by decide +kernel
theorem dX6_buy_171 : decode cX6_buy 171 = .ok (.ireturn, 1) := by decide +kernel
set_option maxRecDepth 20000 in
theorem ggX6_limit_X6_isPerson : GoodIn wsX6_limit wsX6_isPerson := goodIn_r _ [5, 6, 7, 8, 4, 9, 27, 28, 29, 30, 31, 32, 33, 34, 35, 36, 37, 38, 39, 40, 41, 42, 43, 44, 45, 46, 47, 48, 49, 50, 51, 52, 53, 54] (by decide +kernel) (by decide +kernel)
set_option maxRecDepth 20000 in
theorem gX6_limit_X6_isPerson : GoodIn wsX6_limit (wsV RX6 111 RX6 yX6_isPerson wsX6_isPerson) := goodIn_app (goodIn_of _ (by decide +kernel)) ggX6_limit_X6_isPerson
set_option maxRecDepth 20000 in
theorem ggX6_limit_X6_fails : GoodIn wsX6_limit wsX6_fails := goodIn_r _ [13, 14, 27, 28, 29, 30, 31, 32, 33, 34, 35, 36, 37, 38, 39, 40, 41, 42, 43, 44, 45, 46, 47, 48, 49, 50, 51, 52, 53, 54] (by decide +kernel) (by decide +kernel)
set_option maxRecDepth 20000 in
theorem gX6_limit_X6_fails : GoodIn wsX6_limit (wsV RX6 97 RX6 yX6_fails wsX6_fails) := goodIn_app (goodIn_of _ (by decide +kernel)) ggX6_limit_X6_fails
set_option maxRecDepth 20000 in
theorem ggX6_limit_X6_rest : GoodIn wsX6_limit wsX6_rest := goodIn_r _ [18, 19, 20, 21, 22, 23, 24, 25, 26, 27, 28, 29, 30, 31, 32, 33, 34, 35, 36, 37, 38, 39, 40, 41, 42, 43, 44, 45, 46, 47, 48, 49, 50, 51, 52, 53, 54] (by decide +kernel) (by decide +kernel)
set_option maxRecDepth 20000 in
theorem gX6_limit_X6_rest : GoodIn wsX6_limit (wsV RX6 134 RX6 yX6_rest wsX6_rest) := goodIn_app (goodIn_of _ (by decide +kernel)) ggX6_limit_X6_rest
theorem dX6_limit_0 : decode cX6_limit 0 = .ok (.aload_n 0, 1) := by decide +kernel
theorem dX6_limit_1 : decode cX6_limit 1 = .ok (.aload_n 0, 1) := by decide +kernel
theorem dX6_limit_2 : decode cX6_limit 2 = .ok (.iload_n 1, 1) := by decide +kernel
theorem dX6_limit_3 : decode cX6_limit 3 = .ok (.invokevirtual 111, 3) := by decide +kernel
theorem dX6_limit_6 : decode cX6_limit 6 = .ok (.ifCond .eq 7, 3) := by decide +kernel
theorem dX6_limit_9 : decode cX6_limit 9 = .ok (.iconst 0, 1) := by decide +kernel
theorem dX6_limit_10 : decode cX6_limit 10 = .ok (.goto 4, 3) := by decide +kernel
theorem dX6_limit_13 : decode cX6_limit 13 = .ok (.iconst 1, 1) := by decide +kernel
theorem dX6_limit_14 : decode cX6_limit 14 = .ok (.invokevirtual 97, 3) := by decide +kernel
theorem dX6_limit_17 : decode cX6_limit 17 = .ok (.ifCond .eq 7, 3) := by decide +kernel
theorem dX6_limit_20 : decode cX6_limit 20 = .ok (.iconst 0, 1) := by decide +kernel
theorem dX6_limit_21 : decode cX6_limit 21 = .ok (.goto 8, 3) := by decide +kernel
theorem dX6_limit_24 : decode cX6_limit 24 = .ok (.aload_n 0, 1) := by decide +kernel
theorem dX6_limit_25 : decode cX6_limit 25 = .ok (.iload_n 1, 1) := by decide +kernel
theorem dX6_limit_26 : decode cX6_limit 26 = .ok (.invokevirtual 134, 3) := by decide +kernel
theorem dX6_limit_29 : decode cX6_limit 29 = .ok (.ireturn, 1) := by decide +kernel
set_option maxRecDepth 20000 in
theorem ggX6_paidOut_X6_of : GoodIn wsX6_paidOut wsX6_of := goodIn_r _ [6, 7, 8, 9, 5, 10, 11, 12, 13, 14, 15, 16, 17, 18, 19, 20, 21, 22, 23, 24, 25, 26, 27, 28, 29, 30, 31, 32, 33, 34, 35, 36, 37, 38, 39, 40, 41, 42, 43, 44, 45, 46, 47] (by decide +kernel) (by decide +kernel)
set_option maxRecDepth 20000 in
theorem gX6_paidOut_X6_of : GoodIn wsX6_paidOut (wsV RX6 121 RX6 yX6_of wsX6_of) := goodIn_app (goodIn_of _ (by decide +kernel)) ggX6_paidOut_X6_of
theorem dX6_paidOut_0 : decode cX6_paidOut 0 = .ok (.aload_n 0, 1) := by decide +kernel
theorem dX6_paidOut_1 : decode cX6_paidOut 1 = .ok (.aload_n 0, 1) := by decide +kernel
theorem dX6_paidOut_2 : decode cX6_paidOut 2 = .ok (.getfield 44, 3) := by decide +kernel
theorem dX6_paidOut_5 : decode cX6_paidOut 5 = .ok (.iload_n 1, 1) := by decide +kernel
theorem dX6_paidOut_6 : decode cX6_paidOut 6 = .ok (.invokevirtual 121, 3) := by decide +kernel
theorem dX6_paidOut_9 : decode cX6_paidOut 9 = .ok (.ireturn, 1) := by decide +kernel
theorem dX6_works_0 : decode cX6_works 0 = .ok (.aload_n 0, 1) := by decide +kernel
theorem dX6_works_1 : decode cX6_works 1 = .ok (.getfield 38, 3) := by decide +kernel
theorem dX6_works_4 : decode cX6_works 4 = .ok (.iload_n 1, 1) := by decide +kernel
theorem dX6_works_5 : decode cX6_works 5 = .ok (.iaload, 1) := by decide +kernel
theorem dX6_works_6 : decode cX6_works 6 = .ok (.istore_n 2, 1) := by decide +kernel
theorem dX6_works_7 : decode cX6_works 7 = .ok (.iload_n 2, 1) := by decide +kernel
theorem dX6_works_8 : decode cX6_works 8 = .ok (.iconst (-1), 1) := by decide +kernel
theorem dX6_works_9 : decode cX6_works 9 = .ok (.if_icmp .eq 12, 3) := by decide +kernel
theorem dX6_works_12 : decode cX6_works 12 = .ok (.aload_n 0, 1) := by decide +kernel
theorem dX6_works_13 : decode cX6_works 13 = .ok (.getfield 77, 3) := by decide +kernel
theorem dX6_works_16 : decode cX6_works 16 = .ok (.iload_n 2, 1) := by decide +kernel
theorem dX6_works_17 : decode cX6_works 17 = .ok (.iaload, 1) := by decide +kernel
theorem dX6_works_18 : decode cX6_works 18 = .ok (.ifCond .ne 4, 3) := by decide +kernel
theorem dX6_works_21 : decode cX6_works 21 = .ok (.return_, 1) := by decide +kernel
theorem dX6_works_22 : decode cX6_works 22 = .ok (.aload_n 0, 1) := by decide +kernel
theorem dX6_works_23 : decode cX6_works 23 = .ok (.getfield 77, 3) := by decide +kernel
theorem dX6_works_26 : decode cX6_works 26 = .ok (.iload_n 2, 1) := by decide +kernel
theorem dX6_works_27 : decode cX6_works 27 = .ok (.dup2, 1) := by decide +kernel
theorem dX6_works_28 : decode cX6_works 28 = .ok (.iaload, 1) := by decide +kernel
theorem dX6_works_29 : decode cX6_works 29 = .ok (.iconst 1, 1) := by decide +kernel
theorem dX6_works_30 : decode cX6_works 30 = .ok (.isub, 1) := by decide +kernel
theorem dX6_works_31 : decode cX6_works 31 = .ok (.iastore, 1) := by decide +kernel
theorem dX6_works_32 : decode cX6_works 32 = .ok (.aload_n 0, 1) := by decide +kernel
theorem dX6_works_33 : decode cX6_works 33 = .ok (.getfield 26, 3) := by decide +kernel
theorem dX6_works_36 : decode cX6_works 36 = .ok (.iload_n 1, 1) := by decide +kernel
theorem dX6_works_37 : decode cX6_works 37 = .ok (.dup2, 1) := by decide +kernel
theorem dX6_works_38 : decode cX6_works 38 = .ok (.iaload, 1) := by decide +kernel
theorem dX6_works_39 : decode cX6_works 39 = .ok (.iconst 1, 1) := by decide +kernel
theorem dX6_works_40 : decode cX6_works 40 = .ok (.iadd, 1) := by decide +kernel
theorem dX6_works_41 : decode cX6_works 41 = .ok (.iastore, 1) := by decide +kernel
theorem dX6_works_42 : decode cX6_works 42 = .ok (.aload_n 0, 1) := by decide +kernel
theorem dX6_works_43 : decode cX6_works 43 = .ok (.getfield 80, 3) := by decide +kernel
theorem dX6_works_46 : decode cX6_works 46 = .ok (.iload_n 2, 1) := by decide +kernel
theorem dX6_works_47 : decode cX6_works 47 = .ok (.iaload, 1) := by decide +kernel
theorem dX6_works_48 : decode cX6_works 48 = .ok (.bipush 30, 2) := by decide +kernel
theorem dX6_works_50 : decode cX6_works 50 = .ok (.imul, 1) := by decide +kernel
theorem dX6_works_51 : decode cX6_works 51 = .ok (.bipush 100, 2) := by decide +kernel
theorem dX6_works_53 : decode cX6_works 53 = .ok (.idiv, 1) := by decide +kernel
theorem dX6_works_54 : decode cX6_works 54 = .ok (.istore_n 3, 1) := by decide +kernel
theorem dX6_works_55 : decode cX6_works 55 = .ok (.aload_n 0, 1) := by decide +kernel
theorem dX6_works_56 : decode cX6_works 56 = .ok (.getfield 80, 3) := by decide +kernel
theorem dX6_works_59 : decode cX6_works 59 = .ok (.iload_n 2, 1) := by decide +kernel
theorem dX6_works_60 : decode cX6_works 60 = .ok (.iaload, 1) := by decide +kernel
theorem dX6_works_61 : decode cX6_works 61 = .ok (.bipush 20, 2) := by decide +kernel
theorem dX6_works_63 : decode cX6_works 63 = .ok (.imul, 1) := by decide +kernel
theorem dX6_works_64 : decode cX6_works 64 = .ok (.bipush 100, 2) := by decide +kernel
theorem dX6_works_66 : decode cX6_works 66 = .ok (.idiv, 1) := by decide +kernel
theorem dX6_works_67 : decode cX6_works 67 = .ok (.istore 4, 2) := by decide +kernel
theorem dX6_works_69 : decode cX6_works 69 = .ok (.aload_n 0, 1) := by decide +kernel
theorem dX6_works_70 : decode cX6_works 70 = .ok (.getfield 47, 3) := by decide +kernel
theorem dX6_works_73 : decode cX6_works 73 = .ok (.iconst 4, 1) := by decide +kernel
theorem dX6_works_74 : decode cX6_works 74 = .ok (.iload_n 1, 1) := by decide +kernel
theorem dX6_works_75 : decode cX6_works 75 = .ok (.imul, 1) := by decide +kernel
theorem dX6_works_76 : decode cX6_works 76 = .ok (.iconst 0, 1) := by decide +kernel
theorem dX6_works_77 : decode cX6_works 77 = .ok (.iadd, 1) := by decide +kernel
theorem dX6_works_78 : decode cX6_works 78 = .ok (.dup2, 1) := by decide +kernel
theorem dX6_works_79 : decode cX6_works 79 = .ok (.iaload, 1) := by decide +kernel
theorem dX6_works_80 : decode cX6_works 80 = .ok (.iload_n 3, 1) := by decide +kernel
theorem dX6_works_81 : decode cX6_works 81 = .ok (.iadd, 1) := by decide +kernel
theorem dX6_works_82 : decode cX6_works 82 = .ok (.iastore, 1) := by decide +kernel
theorem dX6_works_83 : decode cX6_works 83 = .ok (.aload_n 0, 1) := by decide +kernel
theorem dX6_works_84 : decode cX6_works 84 = .ok (.getfield 47, 3) := by decide +kernel
theorem dX6_works_87 : decode cX6_works 87 = .ok (.iconst 4, 1) := by decide +kernel
theorem dX6_works_88 : decode cX6_works 88 = .ok (.iload_n 1, 1) := by decide +kernel
theorem dX6_works_89 : decode cX6_works 89 = .ok (.imul, 1) := by decide +kernel
theorem dX6_works_90 : decode cX6_works 90 = .ok (.iconst 1, 1) := by decide +kernel
theorem dX6_works_91 : decode cX6_works 91 = .ok (.iadd, 1) := by decide +kernel
theorem dX6_works_92 : decode cX6_works 92 = .ok (.dup2, 1) := by decide +kernel
theorem dX6_works_93 : decode cX6_works 93 = .ok (.iaload, 1) := by decide +kernel
theorem dX6_works_94 : decode cX6_works 94 = .ok (.iload 4, 2) := by decide +kernel
theorem dX6_works_96 : decode cX6_works 96 = .ok (.iadd, 1) := by decide +kernel
theorem dX6_works_97 : decode cX6_works 97 = .ok (.iastore, 1) := by decide +kernel
theorem dX6_works_98 : decode cX6_works 98 = .ok (.aload_n 0, 1) := by decide +kernel
theorem dX6_works_99 : decode cX6_works 99 = .ok (.getfield 47, 3) := by decide +kernel
theorem dX6_works_102 : decode cX6_works 102 = .ok (.iconst 4, 1) := by decide +kernel
theorem dX6_works_103 : decode cX6_works 103 = .ok (.iload_n 1, 1) := by decide +kernel
theorem dX6_works_104 : decode cX6_works 104 = .ok (.imul, 1) := by decide +kernel
theorem dX6_works_105 : decode cX6_works 105 = .ok (.iconst 2, 1) := by decide +kernel
theorem dX6_works_106 : decode cX6_works 106 = .ok (.iadd, 1) := by decide +kernel
theorem dX6_works_107 : decode cX6_works 107 = .ok (.dup2, 1) := by decide +kernel
theorem dX6_works_108 : decode cX6_works 108 = .ok (.iaload, 1) := by decide +kernel
theorem dX6_works_109 : decode cX6_works 109 = .ok (.iload_n 3, 1) := by decide +kernel
theorem dX6_works_110 : decode cX6_works 110 = .ok (.iadd, 1) := by decide +kernel
theorem dX6_works_111 : decode cX6_works 111 = .ok (.iastore, 1) := by decide +kernel
theorem dX6_works_112 : decode cX6_works 112 = .ok (.aload_n 0, 1) := by decide +kernel
theorem dX6_works_113 : decode cX6_works 113 = .ok (.getfield 47, 3) := by decide +kernel
theorem dX6_works_116 : decode cX6_works 116 = .ok (.iconst 4, 1) := by decide +kernel
theorem dX6_works_117 : decode cX6_works 117 = .ok (.iload_n 1, 1) := by decide +kernel
theorem dX6_works_118 : decode cX6_works 118 = .ok (.imul, 1) := by decide +kernel
theorem dX6_works_119 : decode cX6_works 119 = .ok (.iconst 3, 1) := by decide +kernel
theorem dX6_works_120 : decode cX6_works 120 = .ok (.iadd, 1) := by decide +kernel
theorem dX6_works_121 : decode cX6_works 121 = .ok (.dup2, 1) := by decide +kernel
theorem dX6_works_122 : decode cX6_works 122 = .ok (.iaload, 1) := by decide +kernel
theorem dX6_works_123 : decode cX6_works 123 = .ok (.aload_n 0, 1) := by decide +kernel
theorem dX6_works_124 : decode cX6_works 124 = .ok (.getfield 80, 3) := by decide +kernel
theorem dX6_works_127 : decode cX6_works 127 = .ok (.iload_n 2, 1) := by decide +kernel
theorem dX6_works_128 : decode cX6_works 128 = .ok (.iaload, 1) := by decide +kernel
theorem dX6_works_129 : decode cX6_works 129 = .ok (.iload_n 3, 1) := by decide +kernel
theorem dX6_works_130 : decode cX6_works 130 = .ok (.isub, 1) := by decide +kernel
theorem dX6_works_131 : decode cX6_works 131 = .ok (.iload 4, 2) := by decide +kernel
theorem dX6_works_133 : decode cX6_works 133 = .ok (.isub, 1) := by decide +kernel
theorem dX6_works_134 : decode cX6_works 134 = .ok (.iload_n 3, 1) := by decide +kernel
theorem dX6_works_135 : decode cX6_works 135 = .ok (.isub, 1) := by decide +kernel
theorem dX6_works_136 : decode cX6_works 136 = .ok (.iadd, 1) := by decide +kernel
theorem dX6_works_137 : decode cX6_works 137 = .ok (.iastore, 1) := by decide +kernel
theorem dX6_works_138 : decode cX6_works 138 = .ok (.return_, 1) := by decide +kernel
set_option maxRecDepth 20000 in
theorem ggX6_goes_X6_releaseOf : GoodIn wsX6_goes wsX6_releaseOf := goodIn_r _ [11, 12, 1, 3, 13, 14, 15, 16, 10, 17, 18, 19, 20, 21, 22, 23, 24, 25, 26, 27, 28, 29, 30, 31, 32, 33, 34, 35, 36, 37, 38, 39, 40, 41, 42, 43, 44, 45, 46, 47, 48, 49, 50, 51, 52, 53, 54] (by decide +kernel) (by decide +kernel)
set_option maxRecDepth 20000 in
theorem gX6_goes_X6_releaseOf : GoodIn wsX6_goes (wsV RX6 118 RX6 yX6_releaseOf wsX6_releaseOf) := goodIn_app (goodIn_of _ (by decide +kernel)) ggX6_goes_X6_releaseOf
theorem dX6_goes_0 : decode cX6_goes 0 = .ok (.aload_n 0, 1) := by decide +kernel
theorem dX6_goes_1 : decode cX6_goes 1 = .ok (.getfield 7, 3) := by decide +kernel
theorem dX6_goes_4 : decode cX6_goes 4 = .ok (.iload_n 1, 1) := by decide +kernel
theorem dX6_goes_5 : decode cX6_goes 5 = .ok (.baload, 1) := by decide +kernel
theorem dX6_goes_6 : decode cX6_goes 6 = .ok (.ifCond .ne 15, 3) := by decide +kernel
theorem dX6_goes_9 : decode cX6_goes 9 = .ok (.aload_n 0, 1) := by decide +kernel
theorem dX6_goes_10 : decode cX6_goes 10 = .ok (.iload_n 1, 1) := by decide +kernel
theorem dX6_goes_11 : decode cX6_goes 11 = .ok (.invokevirtual 118, 3) := by decide +kernel
theorem dX6_goes_14 : decode cX6_goes 14 = .ok (.aload_n 0, 1) := by decide +kernel
theorem dX6_goes_15 : decode cX6_goes 15 = .ok (.getfield 101, 3) := by decide +kernel
theorem dX6_goes_18 : decode cX6_goes 18 = .ok (.if_icmp .le 5, 3) := by decide +kernel
theorem dX6_goes_21 : decode cX6_goes 21 = .ok (.iconst 0, 1) := by decide +kernel
theorem dX6_goes_22 : decode cX6_goes 22 = .ok (.ireturn, 1) := by decide +kernel
theorem dX6_goes_23 : decode cX6_goes 23 = .ok (.aload_n 0, 1) := by decide +kernel
theorem dX6_goes_24 : decode cX6_goes 24 = .ok (.getfield 7, 3) := by decide +kernel
theorem dX6_goes_27 : decode cX6_goes 27 = .ok (.iload_n 1, 1) := by decide +kernel
theorem dX6_goes_28 : decode cX6_goes 28 = .ok (.iconst 1, 1) := by decide +kernel
theorem dX6_goes_29 : decode cX6_goes 29 = .ok (.bastore, 1) := by decide +kernel
theorem dX6_goes_30 : decode cX6_goes 30 = .ok (.aload_n 0, 1) := by decide +kernel
theorem dX6_goes_31 : decode cX6_goes 31 = .ok (.getfield 41, 3) := by decide +kernel
theorem dX6_goes_34 : decode cX6_goes 34 = .ok (.iload_n 1, 1) := by decide +kernel
theorem dX6_goes_35 : decode cX6_goes 35 = .ok (.aload_n 0, 1) := by decide +kernel
theorem dX6_goes_36 : decode cX6_goes 36 = .ok (.getfield 101, 3) := by decide +kernel
theorem dX6_goes_39 : decode cX6_goes 39 = .ok (.iastore, 1) := by decide +kernel
theorem dX6_goes_40 : decode cX6_goes 40 = .ok (.aload_n 0, 1) := by decide +kernel
theorem dX6_goes_41 : decode cX6_goes 41 = .ok (.getfield 38, 3) := by decide +kernel
theorem dX6_goes_44 : decode cX6_goes 44 = .ok (.iload_n 1, 1) := by decide +kernel
theorem dX6_goes_45 : decode cX6_goes 45 = .ok (.iconst (-1), 1) := by decide +kernel
theorem dX6_goes_46 : decode cX6_goes 46 = .ok (.iastore, 1) := by decide +kernel
theorem dX6_goes_47 : decode cX6_goes 47 = .ok (.aload_n 0, 1) := by decide +kernel
theorem dX6_goes_48 : decode cX6_goes 48 = .ok (.getfield 44, 3) := by decide +kernel
theorem dX6_goes_51 : decode cX6_goes 51 = .ok (.iload_n 1, 1) := by decide +kernel
theorem dX6_goes_52 : decode cX6_goes 52 = .ok (.aload_n 0, 1) := by decide +kernel
theorem dX6_goes_53 : decode cX6_goes 53 = .ok (.getfield 47, 3) := by decide +kernel
theorem dX6_goes_56 : decode cX6_goes 56 = .ok (.iconst 4, 1) := by decide +kernel
theorem dX6_goes_57 : decode cX6_goes 57 = .ok (.iload_n 1, 1) := by decide +kernel
theorem dX6_goes_58 : decode cX6_goes 58 = .ok (.imul, 1) := by decide +kernel
theorem dX6_goes_59 : decode cX6_goes 59 = .ok (.iconst 2, 1) := by decide +kernel
theorem dX6_goes_60 : decode cX6_goes 60 = .ok (.iadd, 1) := by decide +kernel
theorem dX6_goes_61 : decode cX6_goes 61 = .ok (.iaload, 1) := by decide +kernel
theorem dX6_goes_62 : decode cX6_goes 62 = .ok (.aload_n 0, 1) := by decide +kernel
theorem dX6_goes_63 : decode cX6_goes 63 = .ok (.getfield 47, 3) := by decide +kernel
theorem dX6_goes_66 : decode cX6_goes 66 = .ok (.iconst 4, 1) := by decide +kernel
theorem dX6_goes_67 : decode cX6_goes 67 = .ok (.iload_n 1, 1) := by decide +kernel
theorem dX6_goes_68 : decode cX6_goes 68 = .ok (.imul, 1) := by decide +kernel
theorem dX6_goes_69 : decode cX6_goes 69 = .ok (.iconst 3, 1) := by decide +kernel
theorem dX6_goes_70 : decode cX6_goes 70 = .ok (.iadd, 1) := by decide +kernel
theorem dX6_goes_71 : decode cX6_goes 71 = .ok (.iaload, 1) := by decide +kernel
theorem dX6_goes_72 : decode cX6_goes 72 = .ok (.iadd, 1) := by decide +kernel
theorem dX6_goes_73 : decode cX6_goes 73 = .ok (.iastore, 1) := by decide +kernel
theorem dX6_goes_74 : decode cX6_goes 74 = .ok (.aload_n 0, 1) := by decide +kernel
theorem dX6_goes_75 : decode cX6_goes 75 = .ok (.getfield 47, 3) := by decide +kernel
theorem dX6_goes_78 : decode cX6_goes 78 = .ok (.iconst 4, 1) := by decide +kernel
theorem dX6_goes_79 : decode cX6_goes 79 = .ok (.iload_n 1, 1) := by decide +kernel
theorem dX6_goes_80 : decode cX6_goes 80 = .ok (.imul, 1) := by decide +kernel
theorem dX6_goes_81 : decode cX6_goes 81 = .ok (.iconst 2, 1) := by decide +kernel
theorem dX6_goes_82 : decode cX6_goes 82 = .ok (.iadd, 1) := by decide +kernel
theorem dX6_goes_83 : decode cX6_goes 83 = .ok (.iconst 0, 1) := by decide +kernel
theorem dX6_goes_84 : decode cX6_goes 84 = .ok (.iastore, 1) := by decide +kernel
theorem dX6_goes_85 : decode cX6_goes 85 = .ok (.aload_n 0, 1) := by decide +kernel
theorem dX6_goes_86 : decode cX6_goes 86 = .ok (.getfield 47, 3) := by decide +kernel
theorem dX6_goes_89 : decode cX6_goes 89 = .ok (.iconst 4, 1) := by decide +kernel
theorem dX6_goes_90 : decode cX6_goes 90 = .ok (.iload_n 1, 1) := by decide +kernel
theorem dX6_goes_91 : decode cX6_goes 91 = .ok (.imul, 1) := by decide +kernel
theorem dX6_goes_92 : decode cX6_goes 92 = .ok (.iconst 3, 1) := by decide +kernel
theorem dX6_goes_93 : decode cX6_goes 93 = .ok (.iadd, 1) := by decide +kernel
theorem dX6_goes_94 : decode cX6_goes 94 = .ok (.iconst 0, 1) := by decide +kernel
theorem dX6_goes_95 : decode cX6_goes 95 = .ok (.iastore, 1) := by decide +kernel
theorem dX6_goes_96 : decode cX6_goes 96 = .ok (.iconst 1, 1) := by decide +kernel
theorem dX6_goes_97 : decode cX6_goes 97 = .ok (.ireturn, 1) := by decide +kernel
set_option maxRecDepth 20000 in
theorem ggX6_pass_X6_lies : GoodIn wsX6_pass wsX6_lies := goodIn_r _ [8] (by decide +kernel) (by decide +kernel)
set_option maxRecDepth 20000 in
theorem gX6_pass_X6_lies : GoodIn wsX6_pass (va_wsS RX6 90 yX6_lies wsX6_lies) := goodIn_app (goodIn_of _ (by decide +kernel)) ggX6_pass_X6_lies
set_option maxRecDepth 20000 in
theorem ggX6_pass_X6_fails : GoodIn wsX6_pass wsX6_fails := goodIn_r _ [12, 13, 46, 47, 48, 49, 50, 51, 52, 53, 54, 55, 56, 57, 58, 59, 60, 61, 62, 63, 64, 65, 66, 67, 68, 69, 70, 71, 72, 73] (by decide +kernel) (by decide +kernel)
set_option maxRecDepth 20000 in
theorem gX6_pass_X6_fails : GoodIn wsX6_pass (wsV RX6 97 RX6 yX6_fails wsX6_fails) := goodIn_app (goodIn_of _ (by decide +kernel)) ggX6_pass_X6_fails
set_option maxRecDepth 20000 in
theorem ggX6_pass_X6_works : GoodIn wsX6_pass wsX6_works := goodIn_r _ [17, 2, 3, 18, 19, 20, 46, 47, 48, 49, 50, 51, 52, 53, 54, 55, 56, 57, 58, 59, 60, 61, 62, 63, 64, 65, 66, 67, 68, 69, 70, 71, 72, 73] (by decide +kernel) (by decide +kernel)
set_option maxRecDepth 20000 in
theorem gX6_pass_X6_works : GoodIn wsX6_pass (wsV RX6 137 RX6 yX6_works wsX6_works) := goodIn_app (goodIn_of _ (by decide +kernel)) ggX6_pass_X6_works
set_option maxRecDepth 20000 in
theorem ggX6_pass_X6_goes : GoodIn wsX6_pass wsX6_goes := goodIn_r _ [24, 25, 4, 26, 2, 27, 20, 28, 29, 30, 7, 31, 32, 33, 34, 35, 36, 37, 18, 38, 39, 40, 41, 42, 43, 44, 45, 46, 47, 48, 49, 50, 51, 52, 53, 54, 55, 56, 57, 58, 59, 60, 61, 62, 63, 64, 65, 66, 67, 68, 69, 70, 71, 72, 73] (by decide +kernel) (by decide +kernel)
set_option maxRecDepth 20000 in
theorem gX6_pass_X6_goes : GoodIn wsX6_pass (wsV RX6 140 RX6 yX6_goes wsX6_goes) := goodIn_app (goodIn_of _ (by decide +kernel)) ggX6_pass_X6_goes
theorem dX6_pass_0 : decode cX6_pass 0 = .ok (.aload_n 0, 1) := by decide +kernel
theorem dX6_pass_1 : decode cX6_pass 1 = .ok (.iload_n 1, 1) := by decide +kernel
theorem dX6_pass_2 : decode cX6_pass 2 = .ok (.iconst 1, 1) := by decide +kernel
theorem dX6_pass_3 : decode cX6_pass 3 = .ok (.bipush 100, 2) := by decide +kernel
theorem dX6_pass_5 : decode cX6_pass 5 = .ok (.invokestatic 90, 3) := by decide +kernel
theorem dX6_pass_8 : decode cX6_pass 8 = .ok (.ifCond .eq 7, 3) := by decide +kernel
theorem dX6_pass_11 : decode cX6_pass 11 = .ok (.iconst 0, 1) := by decide +kernel
theorem dX6_pass_12 : decode cX6_pass 12 = .ok (.goto 4, 3) := by decide +kernel
theorem dX6_pass_15 : decode cX6_pass 15 = .ok (.iconst 1, 1) := by decide +kernel
theorem dX6_pass_16 : decode cX6_pass 16 = .ok (.invokevirtual 97, 3) := by decide +kernel
theorem dX6_pass_19 : decode cX6_pass 19 = .ok (.ifCond .eq 5, 3) := by decide +kernel
theorem dX6_pass_22 : decode cX6_pass 22 = .ok (.iconst 0, 1) := by decide +kernel
theorem dX6_pass_23 : decode cX6_pass 23 = .ok (.ireturn, 1) := by decide +kernel
theorem dX6_pass_24 : decode cX6_pass 24 = .ok (.iconst 0, 1) := by decide +kernel
theorem dX6_pass_25 : decode cX6_pass 25 = .ok (.istore_n 2, 1) := by decide +kernel
theorem dX6_pass_26 : decode cX6_pass 26 = .ok (.iconst 0, 1) := by decide +kernel
theorem dX6_pass_27 : decode cX6_pass 27 = .ok (.istore_n 3, 1) := by decide +kernel
theorem dX6_pass_28 : decode cX6_pass 28 = .ok (.iload_n 3, 1) := by decide +kernel
theorem dX6_pass_29 : decode cX6_pass 29 = .ok (.iload_n 1, 1) := by decide +kernel
theorem dX6_pass_30 : decode cX6_pass 30 = .ok (.if_icmp .ge 132, 3) := by decide +kernel
theorem dX6_pass_33 : decode cX6_pass 33 = .ok (.iconst 0, 1) := by decide +kernel
theorem dX6_pass_34 : decode cX6_pass 34 = .ok (.istore 4, 2) := by decide +kernel
theorem dX6_pass_36 : decode cX6_pass 36 = .ok (.iload 4, 2) := by decide +kernel
theorem dX6_pass_38 : decode cX6_pass 38 = .ok (.aload_n 0, 1) := by decide +kernel
theorem dX6_pass_39 : decode cX6_pass 39 = .ok (.getfield 87, 3) := by decide +kernel
theorem dX6_pass_42 : decode cX6_pass 42 = .ok (.if_icmp .ge 15, 3) := by decide +kernel
theorem dX6_pass_45 : decode cX6_pass 45 = .ok (.aload_n 0, 1) := by decide +kernel
theorem dX6_pass_46 : decode cX6_pass 46 = .ok (.iload 4, 2) := by decide +kernel
theorem dX6_pass_48 : decode cX6_pass 48 = .ok (.invokevirtual 137, 3) := by decide +kernel
theorem dX6_pass_51 : decode cX6_pass 51 = .ok (.iinc 4 1, 3) := by decide +kernel
theorem dX6_pass_54 : decode cX6_pass 54 = .ok (.goto (-18), 3) := by decide +kernel
theorem dX6_pass_57 : decode cX6_pass 57 = .ok (.iconst 0, 1) := by decide +kernel
theorem dX6_pass_58 : decode cX6_pass 58 = .ok (.istore 4, 2) := by decide +kernel
theorem dX6_pass_60 : decode cX6_pass 60 = .ok (.iload 4, 2) := by decide +kernel
theorem dX6_pass_62 : decode cX6_pass 62 = .ok (.aload_n 0, 1) := by decide +kernel
theorem dX6_pass_63 : decode cX6_pass 63 = .ok (.getfield 87, 3) := by decide +kernel
theorem dX6_pass_66 : decode cX6_pass 66 = .ok (.if_icmp .ge 53, 3) := by decide +kernel
theorem dX6_pass_69 : decode cX6_pass 69 = .ok (.aload_n 0, 1) := by decide +kernel
theorem dX6_pass_70 : decode cX6_pass 70 = .ok (.getfield 38, 3) := by decide +kernel
theorem dX6_pass_73 : decode cX6_pass 73 = .ok (.iload 4, 2) := by decide +kernel
theorem dX6_pass_75 : decode cX6_pass 75 = .ok (.aload_n 0, 1) := by decide +kernel
theorem dX6_pass_76 : decode cX6_pass 76 = .ok (.getfield 38, 3) := by decide +kernel
theorem dX6_pass_79 : decode cX6_pass 79 = .ok (.iload 4, 2) := by decide +kernel
theorem dX6_pass_81 : decode cX6_pass 81 = .ok (.iaload, 1) := by decide +kernel
theorem dX6_pass_82 : decode cX6_pass 82 = .ok (.iconst (-1), 1) := by decide +kernel
theorem dX6_pass_83 : decode cX6_pass 83 = .ok (.if_icmp .eq 22, 3) := by decide +kernel
theorem dX6_pass_86 : decode cX6_pass 86 = .ok (.aload_n 0, 1) := by decide +kernel
theorem dX6_pass_87 : decode cX6_pass 87 = .ok (.getfield 77, 3) := by decide +kernel
theorem dX6_pass_90 : decode cX6_pass 90 = .ok (.aload_n 0, 1) := by decide +kernel
theorem dX6_pass_91 : decode cX6_pass 91 = .ok (.getfield 38, 3) := by decide +kernel
theorem dX6_pass_94 : decode cX6_pass 94 = .ok (.iload 4, 2) := by decide +kernel
theorem dX6_pass_96 : decode cX6_pass 96 = .ok (.iaload, 1) := by decide +kernel
theorem dX6_pass_97 : decode cX6_pass 97 = .ok (.iaload, 1) := by decide +kernel
theorem dX6_pass_98 : decode cX6_pass 98 = .ok (.ifCond .ne 7, 3) := by decide +kernel
theorem dX6_pass_101 : decode cX6_pass 101 = .ok (.iconst (-1), 1) := by decide +kernel
theorem dX6_pass_102 : decode cX6_pass 102 = .ok (.goto 10, 3) := by decide +kernel
theorem dX6_pass_105 : decode cX6_pass 105 = .ok (.aload_n 0, 1) := by decide +kernel
theorem dX6_pass_106 : decode cX6_pass 106 = .ok (.getfield 38, 3) := by decide +kernel
theorem dX6_pass_109 : decode cX6_pass 109 = .ok (.iload 4, 2) := by decide +kernel
theorem dX6_pass_111 : decode cX6_pass 111 = .ok (.iaload, 1) := by decide +kernel
theorem dX6_pass_112 : decode cX6_pass 112 = .ok (.iastore, 1) := by decide +kernel
theorem dX6_pass_113 : decode cX6_pass 113 = .ok (.iinc 4 1, 3) := by decide +kernel
theorem dX6_pass_116 : decode cX6_pass 116 = .ok (.goto (-56), 3) := by decide +kernel
theorem dX6_pass_119 : decode cX6_pass 119 = .ok (.aload_n 0, 1) := by decide +kernel
theorem dX6_pass_120 : decode cX6_pass 120 = .ok (.dup, 1) := by decide +kernel
theorem dX6_pass_121 : decode cX6_pass 121 = .ok (.getfield 101, 3) := by decide +kernel
theorem dX6_pass_124 : decode cX6_pass 124 = .ok (.iconst 1, 1) := by decide +kernel
theorem dX6_pass_125 : decode cX6_pass 125 = .ok (.iadd, 1) := by decide +kernel
theorem dX6_pass_126 : decode cX6_pass 126 = .ok (.putfield 101, 3) := by decide +kernel
theorem dX6_pass_129 : decode cX6_pass 129 = .ok (.iconst 0, 1) := by decide +kernel
theorem dX6_pass_130 : decode cX6_pass 130 = .ok (.istore 4, 2) := by decide +kernel
theorem dX6_pass_132 : decode cX6_pass 132 = .ok (.iload 4, 2) := by decide +kernel
theorem dX6_pass_134 : decode cX6_pass 134 = .ok (.aload_n 0, 1) := by decide +kernel
theorem dX6_pass_135 : decode cX6_pass 135 = .ok (.getfield 87, 3) := by decide +kernel
theorem dX6_pass_138 : decode cX6_pass 138 = .ok (.if_icmp .ge 18, 3) := by decide +kernel
theorem dX6_pass_141 : decode cX6_pass 141 = .ok (.iload_n 2, 1) := by decide +kernel
theorem dX6_pass_142 : decode cX6_pass 142 = .ok (.aload_n 0, 1) := by decide +kernel
theorem dX6_pass_143 : decode cX6_pass 143 = .ok (.iload 4, 2) := by decide +kernel
theorem dX6_pass_145 : decode cX6_pass 145 = .ok (.invokevirtual 140, 3) := by decide +kernel
theorem dX6_pass_148 : decode cX6_pass 148 = .ok (.iadd, 1) := by decide +kernel
theorem dX6_pass_149 : decode cX6_pass 149 = .ok (.istore_n 2, 1) := by decide +kernel
theorem dX6_pass_150 : decode cX6_pass 150 = .ok (.iinc 4 1, 3) := by decide +kernel
theorem dX6_pass_153 : decode cX6_pass 153 = .ok (.goto (-21), 3) := by decide +kernel
theorem dX6_pass_156 : decode cX6_pass 156 = .ok (.iinc 3 1, 3) := by decide +kernel
theorem dX6_pass_159 : decode cX6_pass 159 = .ok (.goto (-131), 3) := by decide +kernel
theorem dX6_pass_162 : decode cX6_pass 162 = .ok (.iload_n 2, 1) := by decide +kernel
theorem dX6_pass_163 : decode cX6_pass 163 = .ok (.ireturn, 1) := by decide +kernel
theorem dJ9_max_7cf53_0 : decode cJ9_max_7cf53 0 = .ok (.iload_n 0, 1) := by decide +kernel
theorem dJ9_max_7cf53_1 : decode cJ9_max_7cf53 1 = .ok (.iload_n 1, 1) := by decide +kernel
theorem dJ9_max_7cf53_2 : decode cJ9_max_7cf53 2 = .ok (.if_icmp .lt 7, 3) := by decide +kernel
theorem dJ9_max_7cf53_5 : decode cJ9_max_7cf53 5 = .ok (.iload_n 0, 1) := by decide +kernel
theorem dJ9_max_7cf53_6 : decode cJ9_max_7cf53 6 = .ok (.goto 4, 3) := by decide +kernel
theorem dJ9_max_7cf53_9 : decode cJ9_max_7cf53 9 = .ok (.iload_n 1, 1) := by decide +kernel
theorem dJ9_max_7cf53_10 : decode cJ9_max_7cf53 10 = .ok (.ireturn, 1) := by decide +kernel
theorem dJ9_min_7cf53_0 : decode cJ9_min_7cf53 0 = .ok (.iload_n 0, 1) := by decide +kernel
theorem dJ9_min_7cf53_1 : decode cJ9_min_7cf53 1 = .ok (.iload_n 1, 1) := by decide +kernel
theorem dJ9_min_7cf53_2 : decode cJ9_min_7cf53 2 = .ok (.if_icmp .gt 7, 3) := by decide +kernel
theorem dJ9_min_7cf53_5 : decode cJ9_min_7cf53 5 = .ok (.iload_n 0, 1) := by decide +kernel
theorem dJ9_min_7cf53_6 : decode cJ9_min_7cf53 6 = .ok (.goto 4, 3) := by decide +kernel
theorem dJ9_min_7cf53_9 : decode cJ9_min_7cf53 9 = .ok (.iload_n 1, 1) := by decide +kernel
theorem dJ9_min_7cf53_10 : decode cJ9_min_7cf53 10 = .ok (.ireturn, 1) := by decide +kernel
set_option maxRecDepth 20000 in
theorem ggL_admit_X5_admit : GoodIn wsL_admit wsX5_admit := goodIn_ca (goodIn_ca (goodIn_r _ [7, 8, 9, 10, 11, 12, 13, 14, 15, 16, 17, 6, 18, 19, 20, 21, 22, 23, 24, 25, 26, 27, 28, 29, 30, 31, 32, 33, 34, 35, 36, 37, 38, 39, 40, 41, 42, 43, 44, 45, 46, 47, 48, 49, 50, 51, 52, 53, 54, 55, 56, 57, 58, 59, 60, 61, 62, 63, 64, 65] (by decide +kernel) (by decide +kernel)) (goodIn_sub (fun _ h => List.mem_cons_of_mem _ (List.mem_append_left _ (List.mem_append_right _ h))) (by decide +kernel))) (goodIn_sub (fun _ h => List.mem_cons_of_mem _ (List.mem_append_right _ h)) (by decide +kernel))
set_option maxRecDepth 20000 in
theorem gL_admit_X5_admit : GoodIn wsL_admit (wsV RL 7 RX5 yX5_admit wsX5_admit) := goodIn_app (goodIn_of _ (by decide +kernel)) ggL_admit_X5_admit
