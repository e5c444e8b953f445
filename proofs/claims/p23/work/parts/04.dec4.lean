theorem dL_isAssigned_132 : decode cL_isAssigned 132 = .ok (.iload 9, 2) := by decide +kernel
theorem dL_isAssigned_134 : decode cL_isAssigned 134 = .ok (.ifCond .eq 53, 3) := by decide +kernel
theorem dL_isAssigned_137 : decode cL_isAssigned 137 = .ok (.aload_n 1, 1) := by decide +kernel
theorem dL_isAssigned_138 : decode cL_isAssigned 138 = .ok (.iload 8, 2) := by decide +kernel
theorem dL_isAssigned_140 : decode cL_isAssigned 140 = .ok (.iconst 3, 1) := by decide +kernel
theorem dL_isAssigned_141 : decode cL_isAssigned 141 = .ok (.iadd, 1) := by decide +kernel
theorem dL_isAssigned_142 : decode cL_isAssigned 142 = .ok (.iload 6, 2) := by decide +kernel
theorem dL_isAssigned_144 : decode cL_isAssigned 144 = .ok (.iastore, 1) := by decide +kernel
theorem dL_isAssigned_145 : decode cL_isAssigned 145 = .ok (.iconst 0, 1) := by decide +kernel
theorem dL_isAssigned_146 : decode cL_isAssigned 146 = .ok (.istore 11, 2) := by decide +kernel
theorem dL_isAssigned_148 : decode cL_isAssigned 148 = .ok (.iload 11, 2) := by decide +kernel
theorem dL_isAssigned_150 : decode cL_isAssigned 150 = .ok (.aload 4, 2) := by decide +kernel
theorem dL_isAssigned_152 : decode cL_isAssigned 152 = .ok (.iconst 1, 1) := by decide +kernel
theorem dL_isAssigned_153 : decode cL_isAssigned 153 = .ok (.iaload, 1) := by decide +kernel
theorem dL_isAssigned_154 : decode cL_isAssigned 154 = .ok (.if_icmp .ge 33, 3) := by decide +kernel
theorem dL_isAssigned_157 : decode cL_isAssigned 157 = .ok (.iload 10, 2) := by decide +kernel
theorem dL_isAssigned_159 : decode cL_isAssigned 159 = .ok (.aload_n 1, 1) := by decide +kernel
theorem dL_isAssigned_160 : decode cL_isAssigned 160 = .ok (.bipush 10, 2) := by decide +kernel
theorem dL_isAssigned_162 : decode cL_isAssigned 162 = .ok (.iload 11, 2) := by decide +kernel
theorem dL_isAssigned_164 : decode cL_isAssigned 164 = .ok (.imul, 1) := by decide +kernel
theorem dL_isAssigned_165 : decode cL_isAssigned 165 = .ok (.iconst 3, 1) := by decide +kernel
theorem dL_isAssigned_166 : decode cL_isAssigned 166 = .ok (.iadd, 1) := by decide +kernel
theorem dL_isAssigned_167 : decode cL_isAssigned 167 = .ok (.iaload, 1) := by decide +kernel
theorem dL_isAssigned_168 : decode cL_isAssigned 168 = .ok (.iload 6, 2) := by decide +kernel
theorem dL_isAssigned_170 : decode cL_isAssigned 170 = .ok (.if_icmp .ne 7, 3) := by decide +kernel
theorem dL_isAssigned_173 : decode cL_isAssigned 173 = .ok (.iconst 1, 1) := by decide +kernel
theorem dL_isAssigned_174 : decode cL_isAssigned 174 = .ok (.goto 4, 3) := by decide +kernel
theorem dL_isAssigned_177 : decode cL_isAssigned 177 = .ok (.iconst 0, 1) := by decide +kernel
theorem dL_isAssigned_178 : decode cL_isAssigned 178 = .ok (.iadd, 1) := by decide +kernel
theorem dL_isAssigned_179 : decode cL_isAssigned 179 = .ok (.istore 10, 2) := by decide +kernel
theorem dL_isAssigned_181 : decode cL_isAssigned 181 = .ok (.iinc 11 1, 3) := by decide +kernel
theorem dL_isAssigned_184 : decode cL_isAssigned 184 = .ok (.goto (-36), 3) := by decide +kernel
theorem dL_isAssigned_187 : decode cL_isAssigned 187 = .ok (.aload_n 0, 1) := by decide +kernel
theorem dL_isAssigned_188 : decode cL_isAssigned 188 = .ok (.bipush 6, 2) := by decide +kernel
theorem dL_isAssigned_190 : decode cL_isAssigned 190 = .ok (.iload 5, 2) := by decide +kernel
theorem dL_isAssigned_192 : decode cL_isAssigned 192 = .ok (.iload 6, 2) := by decide +kernel
theorem dL_isAssigned_194 : decode cL_isAssigned 194 = .ok (.iconst 0, 1) := by decide +kernel
theorem dL_isAssigned_195 : decode cL_isAssigned 195 = .ok (.iconst 0, 1) := by decide +kernel
theorem dL_isAssigned_196 : decode cL_isAssigned 196 = .ok (.invokestatic 96, 3) := by decide +kernel
theorem dL_isAssigned_199 : decode cL_isAssigned 199 = .ok (.iload 7, 2) := by decide +kernel
theorem dL_isAssigned_201 : decode cL_isAssigned 201 = .ok (.ifCond .ne 8, 3) := by decide +kernel
theorem dL_isAssigned_204 : decode cL_isAssigned 204 = .ok (.bipush (-30), 2) := by decide +kernel
theorem dL_isAssigned_206 : decode cL_isAssigned 206 = .ok (.goto 15, 3) := by decide +kernel
theorem dL_isAssigned_209 : decode cL_isAssigned 209 = .ok (.iload 9, 2) := by decide +kernel
theorem dL_isAssigned_211 : decode cL_isAssigned 211 = .ok (.ifCond .eq 8, 3) := by decide +kernel
theorem dL_isAssigned_214 : decode cL_isAssigned 214 = .ok (.iload 10, 2) := by decide +kernel
theorem dL_isAssigned_216 : decode cL_isAssigned 216 = .ok (.goto 5, 3) := by decide +kernel
theorem dL_isAssigned_219 : decode cL_isAssigned 219 = .ok (.bipush (-10), 2) := by decide +kernel
theorem dL_isAssigned_221 : decode cL_isAssigned 221 = .ok (.if_icmp .ne 7, 3) := by decide +kernel
theorem dL_isAssigned_224 : decode cL_isAssigned 224 = .ok (.iconst 1, 1) := by decide +kernel
theorem dL_isAssigned_225 : decode cL_isAssigned 225 = .ok (.goto 4, 3) := by decide +kernel
theorem dL_isAssigned_228 : decode cL_isAssigned 228 = .ok (.iconst 0, 1) := by decide +kernel
theorem dL_isAssigned_229 : decode cL_isAssigned 229 = .ok (.ireturn, 1) := by decide +kernel
set_option maxRecDepth 20000 in
theorem ggL_isBought_L_does : GoodIn wsL_isBought wsL_does := goodIn_ca (goodIn_ca (goodIn_ca (goodIn_ca (goodIn_r _ [4, 5, 6, 7, 8, 9, 10, 11, 12, 13, 14, 15, 16, 17, 18, 19, 20, 21, 22, 23, 24, 25, 26, 27, 28, 29, 30, 31, 32, 33, 34, 35, 36, 37, 38, 39, 40, 41, 42, 43, 44, 45, 46, 47, 48, 49, 50, 51, 52, 53, 54, 55, 56, 57, 58, 59, 60, 61, 62, 63, 64, 65, 66, 67, 68, 69, 70, 71, 72, 73, 74, 75, 76, 77, 78, 79, 80, 81, 82, 83, 84, 85, 86, 87, 88, 89, 90, 91, 92, 93, 94, 95, 96, 97, 98, 99, 100, 101, 102, 103, 104, 105, 106, 107, 108, 109, 110, 111, 112, 113, 114, 115, 116, 117, 118, 119, 120, 121, 122, 123, 124, 125, 126, 127, 128, 129, 130, 131, 132, 133, 134, 135, 136, 137, 138, 139, 140, 141, 142, 143, 144, 145, 146, 147, 148, 149, 150, 151, 152, 153, 154, 155, 156, 157, 158, 159, 160, 161, 162, 163, 164, 165, 166, 167, 168, 169, 170, 171, 172, 173, 174, 175, 176, 177, 178, 179, 180, 181, 182, 183, 184, 185, 186, 187, 188, 189, 190, 191, 192, 193, 194, 195, 196, 197, 198, 199, 200, 201, 202, 203, 204, 205, 206, 207, 208, 209, 210, 211, 212, 213, 214, 215, 216, 217, 218, 219, 220, 221, 222, 223, 224, 225, 226, 227, 228, 229, 230, 231, 232, 233, 234, 235, 236, 237, 238, 239, 240, 241, 242, 243, 244, 245, 246, 247, 248, 249, 250, 251, 252, 253, 254, 255, 256, 257, 258, 259, 260, 261, 262, 263, 264, 265, 266, 267, 268, 269, 270, 271, 272, 273, 274, 283, 284, 285, 286, 287, 288, 289, 290, 291, 292, 293, 294, 295, 296, 297, 298, 299, 300, 301, 302, 303, 304, 305, 306, 307, 308, 309, 310, 311, 312, 313, 314, 315, 316, 317, 318] (by decide +kernel) (by decide +kernel)) (goodIn_sub (fun _ h => List.mem_cons_of_mem _ (List.mem_append_left _ (List.mem_append_left _ (List.mem_append_left _ (List.mem_append_right _ h))))) (by decide +kernel))) (goodIn_sub (fun _ h => List.mem_cons_of_mem _ (List.mem_append_left _ (List.mem_append_left _ (List.mem_append_right _ h)))) (by decide +kernel))) (goodIn_sub (fun _ h => List.mem_cons_of_mem _ (List.mem_append_left _ (List.mem_append_right _ h))) (by decide +kernel))) (goodIn_sub (fun _ h => List.mem_cons_of_mem _ (List.mem_append_right _ h)) (by decide +kernel))
set_option maxRecDepth 20000 in
theorem gL_isBought_L_does : GoodIn wsL_isBought (va_wsS RL 96 yL_does wsL_does) := goodIn_app (goodIn_of _ (by decide +kernel)) ggL_isBought_L_does
set_option maxRecDepth 20000 in
theorem ggL_isBought_X5_limit : GoodIn wsL_isBought wsX5_limit := goodIn_ca (goodIn_r _ [278, 20, 51, 52, 53, 11, 54, 55, 56, 16, 207, 208, 209, 19, 210, 88, 38, 211, 212, 82, 213, 214, 215, 216, 217, 32, 34, 218, 219, 220, 105, 221, 222, 110, 223, 224, 225, 37, 226, 227, 228, 283, 284, 285, 286, 287, 288, 289, 290, 291, 292, 293, 294, 295, 296, 297, 298, 299, 300, 301, 302, 307, 308, 309, 310, 303, 304, 305, 306] (by decide +kernel) (by decide +kernel)) (goodIn_sub (fun _ h => List.mem_cons_of_mem _ (List.mem_append_left _ (List.mem_append_right _ h))) (by decide +kernel))
set_option maxRecDepth 20000 in
theorem gL_isBought_X5_limit : GoodIn wsL_isBought (wsV RL 76 RX5 yX5_limit wsX5_limit) := goodIn_app (goodIn_of _ (by decide +kernel)) ggL_isBought_X5_limit
set_option maxRecDepth 20000 in
theorem ggL_isBought_X5_account : GoodIn wsL_isBought wsX5_account := goodIn_ca (goodIn_r _ [282, 55, 56, 205, 206, 51, 52, 53, 11, 54, 16, 289, 290, 291, 292, 293, 294, 295, 296, 297, 298, 299, 300, 301, 302, 303, 304, 305, 306, 283, 284, 285, 286, 287, 288] (by decide +kernel) (by decide +kernel)) (goodIn_sub (fun _ h => List.mem_cons_of_mem _ (List.mem_append_left _ (List.mem_append_right _ h))) (by decide +kernel))
set_option maxRecDepth 20000 in
theorem gL_isBought_X5_account : GoodIn wsL_isBought (wsV RL 73 RX5 yX5_account wsX5_account) := goodIn_app (goodIn_of _ (by decide +kernel)) ggL_isBought_X5_account
theorem dL_isBought_0 : decode cL_isBought 0 = .ok (.iload_n 3, 1) := by decide +kernel
theorem dL_isBought_1 : decode cL_isBought 1 = .ok (.aload_n 2, 1) := by decide +kernel
theorem dL_isBought_2 : decode cL_isBought 2 = .ok (.iconst 1, 1) := by decide +kernel
theorem dL_isBought_3 : decode cL_isBought 3 = .ok (.iaload, 1) := by decide +kernel
theorem dL_isBought_4 : decode cL_isBought 4 = .ok (.if_icmp .eq 17, 3) := by decide +kernel
theorem dL_isBought_7 : decode cL_isBought 7 = .ok (.iload 4, 2) := by decide +kernel
theorem dL_isBought_9 : decode cL_isBought 9 = .ok (.iconst 1, 1) := by decide +kernel
theorem dL_isBought_10 : decode cL_isBought 10 = .ok (.if_icmp .lt 11, 3) := by decide +kernel
theorem dL_isBought_13 : decode cL_isBought 13 = .ok (.iload 4, 2) := by decide +kernel
theorem dL_isBought_15 : decode cL_isBought 15 = .ok (.sipush 1000, 3) := by decide +kernel
theorem dL_isBought_18 : decode cL_isBought 18 = .ok (.if_icmp .le 37, 3) := by decide +kernel
theorem dL_isBought_21 : decode cL_isBought 21 = .ok (.aload_n 0, 1) := by decide +kernel
theorem dL_isBought_22 : decode cL_isBought 22 = .ok (.bipush 8, 2) := by decide +kernel
theorem dL_isBought_24 : decode cL_isBought 24 = .ok (.iload_n 3, 1) := by decide +kernel
theorem dL_isBought_25 : decode cL_isBought 25 = .ok (.iload 4, 2) := by decide +kernel
theorem dL_isBought_27 : decode cL_isBought 27 = .ok (.iconst 0, 1) := by decide +kernel
theorem dL_isBought_28 : decode cL_isBought 28 = .ok (.iconst 0, 1) := by decide +kernel
theorem dL_isBought_29 : decode cL_isBought 29 = .ok (.invokestatic 96, 3) := by decide +kernel
theorem dL_isBought_32 : decode cL_isBought 32 = .ok (.iload_n 3, 1) := by decide +kernel
theorem dL_isBought_33 : decode cL_isBought 33 = .ok (.aload_n 2, 1) := by decide +kernel
theorem dL_isBought_34 : decode cL_isBought 34 = .ok (.iconst 1, 1) := by decide +kernel
theorem dL_isBought_35 : decode cL_isBought 35 = .ok (.iaload, 1) := by decide +kernel
theorem dL_isBought_36 : decode cL_isBought 36 = .ok (.if_icmp .ne 8, 3) := by decide +kernel
theorem dL_isBought_39 : decode cL_isBought 39 = .ok (.bipush (-30), 2) := by decide +kernel
theorem dL_isBought_41 : decode cL_isBought 41 = .ok (.goto 5, 3) := by decide +kernel
theorem dL_isBought_44 : decode cL_isBought 44 = .ok (.bipush (-20), 2) := by decide +kernel
theorem dL_isBought_46 : decode cL_isBought 46 = .ok (.if_icmp .ne 7, 3) := by decide +kernel
theorem dL_isBought_49 : decode cL_isBought 49 = .ok (.iconst 1, 1) := by decide +kernel
theorem dL_isBought_50 : decode cL_isBought 50 = .ok (.goto 4, 3) := by decide +kernel
theorem dL_isBought_53 : decode cL_isBought 53 = .ok (.iconst 0, 1) := by decide +kernel
theorem dL_isBought_54 : decode cL_isBought 54 = .ok (.ireturn, 1) := by decide +kernel
theorem dL_isBought_55 : decode cL_isBought 55 = .ok (.aload_n 0, 1) := by decide +kernel
theorem dL_isBought_56 : decode cL_isBought 56 = .ok (.iload_n 3, 1) := by decide +kernel
theorem dL_isBought_57 : decode cL_isBought 57 = .ok (.invokevirtual 76, 3) := by decide +kernel
theorem dL_isBought_60 : decode cL_isBought 60 = .ok (.istore 5, 2) := by decide +kernel
theorem dL_isBought_62 : decode cL_isBought 62 = .ok (.aload_n 0, 1) := by decide +kernel
theorem dL_isBought_63 : decode cL_isBought 63 = .ok (.iload_n 3, 1) := by decide +kernel
theorem dL_isBought_64 : decode cL_isBought 64 = .ok (.iconst 3, 1) := by decide +kernel
theorem dL_isBought_65 : decode cL_isBought 65 = .ok (.invokevirtual 73, 3) := by decide +kernel
theorem dL_isBought_68 : decode cL_isBought 68 = .ok (.istore 6, 2) := by decide +kernel
theorem dL_isBought_70 : decode cL_isBought 70 = .ok (.aload_n 1, 1) := by decide +kernel
theorem dL_isBought_71 : decode cL_isBought 71 = .ok (.bipush 10, 2) := by decide +kernel
theorem dL_isBought_73 : decode cL_isBought 73 = .ok (.iload_n 3, 1) := by decide +kernel
theorem dL_isBought_74 : decode cL_isBought 74 = .ok (.imul, 1) := by decide +kernel
theorem dL_isBought_75 : decode cL_isBought 75 = .ok (.iconst 4, 1) := by decide +kernel
theorem dL_isBought_76 : decode cL_isBought 76 = .ok (.iadd, 1) := by decide +kernel
theorem dL_isBought_77 : decode cL_isBought 77 = .ok (.iaload, 1) := by decide +kernel
theorem dL_isBought_78 : decode cL_isBought 78 = .ok (.ifCond .ne 21, 3) := by decide +kernel
theorem dL_isBought_81 : decode cL_isBought 81 = .ok (.iload 4, 2) := by decide +kernel
theorem dL_isBought_83 : decode cL_isBought 83 = .ok (.iload 5, 2) := by decide +kernel
theorem dL_isBought_85 : decode cL_isBought 85 = .ok (.if_icmp .gt 14, 3) := by decide +kernel
theorem dL_isBought_88 : decode cL_isBought 88 = .ok (.iload 4, 2) := by decide +kernel
theorem dL_isBought_90 : decode cL_isBought 90 = .ok (.iload 6, 2) := by decide +kernel
theorem dL_isBought_92 : decode cL_isBought 92 = .ok (.if_icmp .gt 7, 3) := by decide +kernel
theorem dL_isBought_95 : decode cL_isBought 95 = .ok (.iconst 1, 1) := by decide +kernel
theorem dL_isBought_96 : decode cL_isBought 96 = .ok (.goto 4, 3) := by decide +kernel
theorem dL_isBought_99 : decode cL_isBought 99 = .ok (.iconst 0, 1) := by decide +kernel
theorem dL_isBought_100 : decode cL_isBought 100 = .ok (.istore 7, 2) := by decide +kernel
theorem dL_isBought_102 : decode cL_isBought 102 = .ok (.aload_n 0, 1) := by decide +kernel
theorem dL_isBought_103 : decode cL_isBought 103 = .ok (.bipush 8, 2) := by decide +kernel
theorem dL_isBought_105 : decode cL_isBought 105 = .ok (.iload_n 3, 1) := by decide +kernel
theorem dL_isBought_106 : decode cL_isBought 106 = .ok (.iload 4, 2) := by decide +kernel
theorem dL_isBought_108 : decode cL_isBought 108 = .ok (.iconst 0, 1) := by decide +kernel
theorem dL_isBought_109 : decode cL_isBought 109 = .ok (.iconst 0, 1) := by decide +kernel
theorem dL_isBought_110 : decode cL_isBought 110 = .ok (.invokestatic 96, 3) := by decide +kernel
theorem dL_isBought_113 : decode cL_isBought 113 = .ok (.iload 7, 2) := by decide +kernel
theorem dL_isBought_115 : decode cL_isBought 115 = .ok (.ifCond .eq 11, 3) := by decide +kernel
theorem dL_isBought_118 : decode cL_isBought 118 = .ok (.iload 6, 2) := by decide +kernel
theorem dL_isBought_120 : decode cL_isBought 120 = .ok (.iload 4, 2) := by decide +kernel
theorem dL_isBought_122 : decode cL_isBought 122 = .ok (.isub, 1) := by decide +kernel
theorem dL_isBought_123 : decode cL_isBought 123 = .ok (.goto 5, 3) := by decide +kernel
theorem dL_isBought_126 : decode cL_isBought 126 = .ok (.bipush (-10), 2) := by decide +kernel
theorem dL_isBought_128 : decode cL_isBought 128 = .ok (.if_icmp .ne 30, 3) := by decide +kernel
theorem dL_isBought_131 : decode cL_isBought 131 = .ok (.aload_n 0, 1) := by decide +kernel
theorem dL_isBought_132 : decode cL_isBought 132 = .ok (.iload_n 3, 1) := by decide +kernel
theorem dL_isBought_133 : decode cL_isBought 133 = .ok (.invokevirtual 76, 3) := by decide +kernel
theorem dL_isBought_136 : decode cL_isBought 136 = .ok (.iload 7, 2) := by decide +kernel
theorem dL_isBought_138 : decode cL_isBought 138 = .ok (.ifCond .eq 11, 3) := by decide +kernel
theorem dL_isBought_141 : decode cL_isBought 141 = .ok (.iload 5, 2) := by decide +kernel
theorem dL_isBought_143 : decode cL_isBought 143 = .ok (.iload 4, 2) := by decide +kernel
theorem dL_isBought_145 : decode cL_isBought 145 = .ok (.isub, 1) := by decide +kernel
theorem dL_isBought_146 : decode cL_isBought 146 = .ok (.goto 5, 3) := by decide +kernel
theorem dL_isBought_149 : decode cL_isBought 149 = .ok (.iload 5, 2) := by decide +kernel
theorem dL_isBought_151 : decode cL_isBought 151 = .ok (.if_icmp .ne 7, 3) := by decide +kernel
theorem dL_isBought_154 : decode cL_isBought 154 = .ok (.iconst 1, 1) := by decide +kernel
theorem dL_isBought_155 : decode cL_isBought 155 = .ok (.goto 4, 3) := by decide +kernel
theorem dL_isBought_158 : decode cL_isBought 158 = .ok (.iconst 0, 1) := by decide +kernel
theorem dL_isBought_159 : decode cL_isBought 159 = .ok (.ireturn, 1) := by decide +kernel
set_option maxRecDepth 20000 in
theorem ggL_isDay_X5_account : GoodIn wsL_isDay wsX5_account := goodIn_ca (goodIn_r _ [6, 7, 8, 9, 10, 11, 12, 13, 5, 14, 15, 107, 108, 109, 110, 111, 112, 113, 114, 115, 116, 117, 118, 119, 120, 121, 122, 123, 124, 125, 126, 127, 128, 129, 130] (by decide +kernel) (by decide +kernel)) (goodIn_sub (fun _ h => List.mem_cons_of_mem _ (List.mem_append_left _ (List.mem_append_right _ h))) (by decide +kernel))
set_option maxRecDepth 20000 in
theorem gL_isDay_X5_account : GoodIn wsL_isDay (wsV RL 73 RX5 yX5_account wsX5_account) := goodIn_app (goodIn_of _ (by decide +kernel)) ggL_isDay_X5_account
set_option maxRecDepth 20000 in
theorem ggL_isDay_X5_paidOut : GoodIn wsL_isDay wsX5_paidOut := goodIn_ca (goodIn_r _ [19, 9, 20, 11, 12, 13, 5, 14, 7, 8, 15, 107, 108, 109, 110, 111, 112, 113, 114, 115, 116, 117, 118, 119, 120, 121, 122, 123, 124, 125, 126, 127, 128, 129, 130] (by decide +kernel) (by decide +kernel)) (goodIn_sub (fun _ h => List.mem_cons_of_mem _ (List.mem_append_left _ (List.mem_append_right _ h))) (by decide +kernel))
set_option maxRecDepth 20000 in
theorem gL_isDay_X5_paidOut : GoodIn wsL_isDay (wsV RL 79 RX5 yX5_paidOut wsX5_paidOut) := goodIn_app (goodIn_of _ (by decide +kernel)) ggL_isDay_X5_paidOut
set_option maxRecDepth 20000 in
theorem ggL_isDay_L_due : GoodIn wsL_isDay wsL_due := goodIn_r _ [24] (by decide +kernel) (by decide +kernel)
set_option maxRecDepth 20000 in
theorem gL_isDay_L_due : GoodIn wsL_isDay (va_wsS RL 88 yL_due wsL_due) := goodIn_app (goodIn_of _ (by decide +kernel)) ggL_isDay_L_due
set_option maxRecDepth 20000 in
theorem ggL_isDay_X5_pass : GoodIn wsL_isDay wsX5_pass := goodIn_ca (goodIn_r _ [28, 29, 30, 31, 5, 32, 33, 34, 35, 36, 37, 38, 15, 39, 40, 41, 42, 43, 44, 45, 46, 47, 48, 49, 50, 51, 52, 53, 54, 55, 56, 57, 58, 59, 60, 61, 62, 63, 64, 65, 66, 67, 68, 69, 70, 71, 72, 73, 74, 75, 76, 77, 78, 79, 80, 81, 82, 83, 84, 85, 86, 87, 88, 89, 90, 91, 92, 93, 94, 95, 96, 97, 98, 99, 100, 101, 102, 103, 104, 105, 106, 125, 126, 127, 128, 129, 130, 107, 108, 109, 110, 111, 112, 113, 114, 115, 116, 117, 118, 119, 120, 131, 132, 133, 134, 135, 136, 121, 122, 123, 124, 137, 138] (by decide +kernel) (by decide +kernel)) (goodIn_sub (fun _ h => List.mem_cons_of_mem _ (List.mem_append_right _ h)) (by decide +kernel))
set_option maxRecDepth 20000 in
theorem gL_isDay_X5_pass : GoodIn wsL_isDay (wsV RL 41 RX5 yX5_pass wsX5_pass) := goodIn_app (goodIn_of _ (by decide +kernel)) ggL_isDay_X5_pass
theorem dL_isDay_0 : decode cL_isDay 0 = .ok (.bipush 6, 2) := by decide +kernel
theorem dL_isDay_2 : decode cL_isDay 2 = .ok (.newarray .int, 2) := by decide +kernel
theorem dL_isDay_4 : decode cL_isDay 4 = .ok (.astore 4, 2) := by decide +kernel
theorem dL_isDay_6 : decode cL_isDay 6 = .ok (.bipush 24, 2) := by decide +kernel
theorem dL_isDay_8 : decode cL_isDay 8 = .ok (.newarray .int, 2) := by decide +kernel
theorem dL_isDay_10 : decode cL_isDay 10 = .ok (.astore 5, 2) := by decide +kernel
theorem dL_isDay_12 : decode cL_isDay 12 = .ok (.iconst 0, 1) := by decide +kernel
theorem dL_isDay_13 : decode cL_isDay 13 = .ok (.istore 6, 2) := by decide +kernel
theorem dL_isDay_15 : decode cL_isDay 15 = .ok (.iload 6, 2) := by decide +kernel
theorem dL_isDay_17 : decode cL_isDay 17 = .ok (.aload_n 3, 1) := by decide +kernel
theorem dL_isDay_18 : decode cL_isDay 18 = .ok (.iconst 1, 1) := by decide +kernel
theorem dL_isDay_19 : decode cL_isDay 19 = .ok (.iaload, 1) := by decide +kernel
theorem dL_isDay_20 : decode cL_isDay 20 = .ok (.if_icmp .ge 186, 3) := by decide +kernel
theorem dL_isDay_23 : decode cL_isDay 23 = .ok (.aload_n 1, 1) := by decide +kernel
theorem dL_isDay_24 : decode cL_isDay 24 = .ok (.bipush 10, 2) := by decide +kernel
theorem dL_isDay_26 : decode cL_isDay 26 = .ok (.iload 6, 2) := by decide +kernel
theorem dL_isDay_28 : decode cL_isDay 28 = .ok (.imul, 1) := by decide +kernel
theorem dL_isDay_29 : decode cL_isDay 29 = .ok (.iconst 3, 1) := by decide +kernel
theorem dL_isDay_30 : decode cL_isDay 30 = .ok (.iadd, 1) := by decide +kernel
theorem dL_isDay_31 : decode cL_isDay 31 = .ok (.iaload, 1) := by decide +kernel
theorem dL_isDay_32 : decode cL_isDay 32 = .ok (.istore 7, 2) := by decide +kernel
theorem dL_isDay_34 : decode cL_isDay 34 = .ok (.iconst 0, 1) := by decide +kernel
theorem dL_isDay_35 : decode cL_isDay 35 = .ok (.istore 8, 2) := by decide +kernel
theorem dL_isDay_37 : decode cL_isDay 37 = .ok (.iload 8, 2) := by decide +kernel
theorem dL_isDay_39 : decode cL_isDay 39 = .ok (.iconst 4, 1) := by decide +kernel
theorem dL_isDay_40 : decode cL_isDay 40 = .ok (.if_icmp .ge 27, 3) := by decide +kernel
theorem dL_isDay_43 : decode cL_isDay 43 = .ok (.aload 5, 2) := by decide +kernel
theorem dL_isDay_45 : decode cL_isDay 45 = .ok (.iconst 4, 1) := by decide +kernel
theorem dL_isDay_46 : decode cL_isDay 46 = .ok (.iload 6, 2) := by decide +kernel
theorem dL_isDay_48 : decode cL_isDay 48 = .ok (.imul, 1) := by decide +kernel
theorem dL_isDay_49 : decode cL_isDay 49 = .ok (.iload 8, 2) := by decide +kernel
theorem dL_isDay_51 : decode cL_isDay 51 = .ok (.iadd, 1) := by decide +kernel
theorem dL_isDay_52 : decode cL_isDay 52 = .ok (.aload_n 0, 1) := by decide +kernel
theorem dL_isDay_53 : decode cL_isDay 53 = .ok (.iload 6, 2) := by decide +kernel
theorem dL_isDay_55 : decode cL_isDay 55 = .ok (.iload 8, 2) := by decide +kernel
theorem dL_isDay_57 : decode cL_isDay 57 = .ok (.invokevirtual 73, 3) := by decide +kernel
theorem dL_isDay_60 : decode cL_isDay 60 = .ok (.iastore, 1) := by decide +kernel
theorem dL_isDay_61 : decode cL_isDay 61 = .ok (.iinc 8 1, 3) := by decide +kernel
theorem dL_isDay_64 : decode cL_isDay 64 = .ok (.goto (-27), 3) := by decide +kernel
theorem dL_isDay_67 : decode cL_isDay 67 = .ok (.iload 7, 2) := by decide +kernel
theorem dL_isDay_69 : decode cL_isDay 69 = .ok (.ifCond .lt 131, 3) := by decide +kernel
theorem dL_isDay_72 : decode cL_isDay 72 = .ok (.aload_n 2, 1) := by decide +kernel
theorem dL_isDay_73 : decode cL_isDay 73 = .ok (.iconst 4, 1) := by decide +kernel
theorem dL_isDay_74 : decode cL_isDay 74 = .ok (.iload 7, 2) := by decide +kernel
theorem dL_isDay_76 : decode cL_isDay 76 = .ok (.imul, 1) := by decide +kernel
theorem dL_isDay_77 : decode cL_isDay 77 = .ok (.iconst 2, 1) := by decide +kernel
theorem dL_isDay_78 : decode cL_isDay 78 = .ok (.iadd, 1) := by decide +kernel
theorem dL_isDay_79 : decode cL_isDay 79 = .ok (.iaload, 1) := by decide +kernel
theorem dL_isDay_80 : decode cL_isDay 80 = .ok (.ifCond .le 120, 3) := by decide +kernel
theorem dL_isDay_83 : decode cL_isDay 83 = .ok (.aload_n 2, 1) := by decide +kernel
theorem dL_isDay_84 : decode cL_isDay 84 = .ok (.iconst 4, 1) := by decide +kernel
theorem dL_isDay_85 : decode cL_isDay 85 = .ok (.iload 7, 2) := by decide +kernel
theorem dL_isDay_87 : decode cL_isDay 87 = .ok (.imul, 1) := by decide +kernel
theorem dL_isDay_88 : decode cL_isDay 88 = .ok (.iconst 3, 1) := by decide +kernel
theorem dL_isDay_89 : decode cL_isDay 89 = .ok (.iadd, 1) := by decide +kernel
theorem dL_isDay_90 : decode cL_isDay 90 = .ok (.iaload, 1) := by decide +kernel
theorem dL_isDay_91 : decode cL_isDay 91 = .ok (.istore 8, 2) := by decide +kernel
theorem dL_isDay_93 : decode cL_isDay 93 = .ok (.aload_n 2, 1) := by decide +kernel
theorem dL_isDay_94 : decode cL_isDay 94 = .ok (.iconst 4, 1) := by decide +kernel
theorem dL_isDay_95 : decode cL_isDay 95 = .ok (.iload 7, 2) := by decide +kernel
theorem dL_isDay_97 : decode cL_isDay 97 = .ok (.imul, 1) := by decide +kernel
theorem dL_isDay_98 : decode cL_isDay 98 = .ok (.iconst 2, 1) := by decide +kernel
theorem dL_isDay_99 : decode cL_isDay 99 = .ok (.iadd, 1) := by decide +kernel
theorem dL_isDay_100 : decode cL_isDay 100 = .ok (.dup2, 1) := by decide +kernel
theorem dL_isDay_101 : decode cL_isDay 101 = .ok (.iaload, 1) := by decide +kernel
theorem dL_isDay_102 : decode cL_isDay 102 = .ok (.iconst 1, 1) := by decide +kernel
theorem dL_isDay_103 : decode cL_isDay 103 = .ok (.isub, 1) := by decide +kernel
theorem dL_isDay_104 : decode cL_isDay 104 = .ok (.iastore, 1) := by decide +kernel
theorem dL_isDay_105 : decode cL_isDay 105 = .ok (.aload_n 1, 1) := by decide +kernel
theorem dL_isDay_106 : decode cL_isDay 106 = .ok (.bipush 10, 2) := by decide +kernel
theorem dL_isDay_108 : decode cL_isDay 108 = .ok (.iload 6, 2) := by decide +kernel
theorem dL_isDay_110 : decode cL_isDay 110 = .ok (.imul, 1) := by decide +kernel
theorem dL_isDay_111 : decode cL_isDay 111 = .ok (.bipush 6, 2) := by decide +kernel
theorem dL_isDay_113 : decode cL_isDay 113 = .ok (.iadd, 1) := by decide +kernel
theorem dL_isDay_114 : decode cL_isDay 114 = .ok (.dup2, 1) := by decide +kernel
theorem dL_isDay_115 : decode cL_isDay 115 = .ok (.iaload, 1) := by decide +kernel
theorem dL_isDay_116 : decode cL_isDay 116 = .ok (.iconst 1, 1) := by decide +kernel
theorem dL_isDay_117 : decode cL_isDay 117 = .ok (.iadd, 1) := by decide +kernel
theorem dL_isDay_118 : decode cL_isDay 118 = .ok (.iastore, 1) := by decide +kernel
theorem dL_isDay_119 : decode cL_isDay 119 = .ok (.aload 5, 2) := by decide +kernel
theorem dL_isDay_121 : decode cL_isDay 121 = .ok (.iconst 4, 1) := by decide +kernel
theorem dL_isDay_122 : decode cL_isDay 122 = .ok (.iload 6, 2) := by decide +kernel
theorem dL_isDay_124 : decode cL_isDay 124 = .ok (.imul, 1) := by decide +kernel
theorem dL_isDay_125 : decode cL_isDay 125 = .ok (.dup2, 1) := by decide +kernel
theorem dL_isDay_126 : decode cL_isDay 126 = .ok (.iaload, 1) := by decide +kernel
theorem dL_isDay_127 : decode cL_isDay 127 = .ok (.iload 8, 2) := by decide +kernel
theorem dL_isDay_129 : decode cL_isDay 129 = .ok (.iconst 3, 1) := by decide +kernel
theorem dL_isDay_130 : decode cL_isDay 130 = .ok (.imul, 1) := by decide +kernel
theorem dL_isDay_131 : decode cL_isDay 131 = .ok (.bipush 10, 2) := by decide +kernel
theorem dL_isDay_133 : decode cL_isDay 133 = .ok (.idiv, 1) := by decide +kernel
theorem dL_isDay_134 : decode cL_isDay 134 = .ok (.iadd, 1) := by decide +kernel
theorem dL_isDay_135 : decode cL_isDay 135 = .ok (.iastore, 1) := by decide +kernel
theorem dL_isDay_136 : decode cL_isDay 136 = .ok (.aload 5, 2) := by decide +kernel
theorem dL_isDay_138 : decode cL_isDay 138 = .ok (.iconst 4, 1) := by decide +kernel
theorem dL_isDay_139 : decode cL_isDay 139 = .ok (.iload 6, 2) := by decide +kernel
theorem dL_isDay_141 : decode cL_isDay 141 = .ok (.imul, 1) := by decide +kernel
theorem dL_isDay_142 : decode cL_isDay 142 = .ok (.iconst 1, 1) := by decide +kernel
theorem dL_isDay_143 : decode cL_isDay 143 = .ok (.iadd, 1) := by decide +kernel
theorem dL_isDay_144 : decode cL_isDay 144 = .ok (.dup2, 1) := by decide +kernel
theorem dL_isDay_145 : decode cL_isDay 145 = .ok (.iaload, 1) := by decide +kernel
theorem dL_isDay_146 : decode cL_isDay 146 = .ok (.iload 8, 2) := by decide +kernel
theorem dL_isDay_148 : decode cL_isDay 148 = .ok (.iconst 5, 1) := by decide +kernel
theorem dL_isDay_149 : decode cL_isDay 149 = .ok (.idiv, 1) := by decide +kernel
theorem dL_isDay_150 : decode cL_isDay 150 = .ok (.iadd, 1) := by decide +kernel
theorem dL_isDay_151 : decode cL_isDay 151 = .ok (.iastore, 1) := by decide +kernel
theorem dL_isDay_152 : decode cL_isDay 152 = .ok (.aload 5, 2) := by decide +kernel
theorem dL_isDay_154 : decode cL_isDay 154 = .ok (.iconst 4, 1) := by decide +kernel
theorem dL_isDay_155 : decode cL_isDay 155 = .ok (.iload 6, 2) := by decide +kernel
theorem dL_isDay_157 : decode cL_isDay 157 = .ok (.imul, 1) := by decide +kernel
theorem dL_isDay_158 : decode cL_isDay 158 = .ok (.iconst 2, 1) := by decide +kernel
theorem dL_isDay_159 : decode cL_isDay 159 = .ok (.iadd, 1) := by decide +kernel
theorem dL_isDay_160 : decode cL_isDay 160 = .ok (.dup2, 1) := by decide +kernel
theorem dL_isDay_161 : decode cL_isDay 161 = .ok (.iaload, 1) := by decide +kernel
theorem dL_isDay_162 : decode cL_isDay 162 = .ok (.iload 8, 2) := by decide +kernel
theorem dL_isDay_164 : decode cL_isDay 164 = .ok (.iconst 3, 1) := by decide +kernel
theorem dL_isDay_165 : decode cL_isDay 165 = .ok (.imul, 1) := by decide +kernel
theorem dL_isDay_166 : decode cL_isDay 166 = .ok (.bipush 10, 2) := by decide +kernel
theorem dL_isDay_168 : decode cL_isDay 168 = .ok (.idiv, 1) := by decide +kernel
theorem dL_isDay_169 : decode cL_isDay 169 = .ok (.iadd, 1) := by decide +kernel
theorem dL_isDay_170 : decode cL_isDay 170 = .ok (.iastore, 1) := by decide +kernel
theorem dL_isDay_171 : decode cL_isDay 171 = .ok (.aload 5, 2) := by decide +kernel
theorem dL_isDay_173 : decode cL_isDay 173 = .ok (.iconst 4, 1) := by decide +kernel
theorem dL_isDay_174 : decode cL_isDay 174 = .ok (.iload 6, 2) := by decide +kernel
theorem dL_isDay_176 : decode cL_isDay 176 = .ok (.imul, 1) := by decide +kernel
theorem dL_isDay_177 : decode cL_isDay 177 = .ok (.iconst 3, 1) := by decide +kernel
theorem dL_isDay_178 : decode cL_isDay 178 = .ok (.iadd, 1) := by decide +kernel
theorem dL_isDay_179 : decode cL_isDay 179 = .ok (.dup2, 1) := by decide +kernel
theorem dL_isDay_180 : decode cL_isDay 180 = .ok (.iaload, 1) := by decide +kernel
theorem dL_isDay_181 : decode cL_isDay 181 = .ok (.iload 8, 2) := by decide +kernel
theorem dL_isDay_183 : decode cL_isDay 183 = .ok (.iload 8, 2) := by decide +kernel
theorem dL_isDay_185 : decode cL_isDay 185 = .ok (.iconst 5, 1) := by decide +kernel
theorem dL_isDay_186 : decode cL_isDay 186 = .ok (.idiv, 1) := by decide +kernel
theorem dL_isDay_187 : decode cL_isDay 187 = .ok (.isub, 1) := by decide +kernel
theorem dL_isDay_188 : decode cL_isDay 188 = .ok (.iconst 2, 1) := by decide +kernel
theorem dL_isDay_189 : decode cL_isDay 189 = .ok (.iload 8, 2) := by decide +kernel
theorem dL_isDay_191 : decode cL_isDay 191 = .ok (.iconst 3, 1) := by decide +kernel
theorem dL_isDay_192 : decode cL_isDay 192 = .ok (.imul, 1) := by decide +kernel
theorem dL_isDay_193 : decode cL_isDay 193 = .ok (.bipush 10, 2) := by decide +kernel
theorem dL_isDay_195 : decode cL_isDay 195 = .ok (.idiv, 1) := by decide +kernel
theorem dL_isDay_196 : decode cL_isDay 196 = .ok (.imul, 1) := by decide +kernel
theorem dL_isDay_197 : decode cL_isDay 197 = .ok (.isub, 1) := by decide +kernel
theorem dL_isDay_198 : decode cL_isDay 198 = .ok (.iadd, 1) := by decide +kernel
theorem dL_isDay_199 : decode cL_isDay 199 = .ok (.iastore, 1) := by decide +kernel
theorem dL_isDay_200 : decode cL_isDay 200 = .ok (.iinc 6 1, 3) := by decide +kernel
theorem dL_isDay_203 : decode cL_isDay 203 = .ok (.goto (-188), 3) := by decide +kernel
theorem dL_isDay_206 : decode cL_isDay 206 = .ok (.iconst 0, 1) := by decide +kernel
theorem dL_isDay_207 : decode cL_isDay 207 = .ok (.istore 6, 2) := by decide +kernel
theorem dL_isDay_209 : decode cL_isDay 209 = .ok (.iload 6, 2) := by decide +kernel
theorem dL_isDay_211 : decode cL_isDay 211 = .ok (.aload_n 3, 1) := by decide +kernel
theorem dL_isDay_212 : decode cL_isDay 212 = .ok (.iconst 1, 1) := by decide +kernel
theorem dL_isDay_213 : decode cL_isDay 213 = .ok (.iaload, 1) := by decide +kernel
theorem dL_isDay_214 : decode cL_isDay 214 = .ok (.if_icmp .ge 61, 3) := by decide +kernel
theorem dL_isDay_217 : decode cL_isDay 217 = .ok (.aload_n 1, 1) := by decide +kernel
theorem dL_isDay_218 : decode cL_isDay 218 = .ok (.bipush 10, 2) := by decide +kernel
theorem dL_isDay_220 : decode cL_isDay 220 = .ok (.iload 6, 2) := by decide +kernel
theorem dL_isDay_222 : decode cL_isDay 222 = .ok (.imul, 1) := by decide +kernel
theorem dL_isDay_223 : decode cL_isDay 223 = .ok (.iconst 3, 1) := by decide +kernel
theorem dL_isDay_224 : decode cL_isDay 224 = .ok (.iadd, 1) := by decide +kernel
theorem dL_isDay_225 : decode cL_isDay 225 = .ok (.aload_n 1, 1) := by decide +kernel
theorem dL_isDay_226 : decode cL_isDay 226 = .ok (.bipush 10, 2) := by decide +kernel
theorem dL_isDay_228 : decode cL_isDay 228 = .ok (.iload 6, 2) := by decide +kernel
theorem dL_isDay_230 : decode cL_isDay 230 = .ok (.imul, 1) := by decide +kernel
theorem dL_isDay_231 : decode cL_isDay 231 = .ok (.iconst 3, 1) := by decide +kernel
theorem dL_isDay_232 : decode cL_isDay 232 = .ok (.iadd, 1) := by decide +kernel
theorem dL_isDay_233 : decode cL_isDay 233 = .ok (.iaload, 1) := by decide +kernel
theorem dL_isDay_234 : decode cL_isDay 234 = .ok (.ifCond .lt 25, 3) := by decide +kernel
theorem dL_isDay_237 : decode cL_isDay 237 = .ok (.aload_n 2, 1) := by decide +kernel
theorem dL_isDay_238 : decode cL_isDay 238 = .ok (.iconst 4, 1) := by decide +kernel
theorem dL_isDay_239 : decode cL_isDay 239 = .ok (.aload_n 1, 1) := by decide +kernel
theorem dL_isDay_240 : decode cL_isDay 240 = .ok (.bipush 10, 2) := by decide +kernel
theorem dL_isDay_242 : decode cL_isDay 242 = .ok (.iload 6, 2) := by decide +kernel
theorem dL_isDay_244 : decode cL_isDay 244 = .ok (.imul, 1) := by decide +kernel
theorem dL_isDay_245 : decode cL_isDay 245 = .ok (.iconst 3, 1) := by decide +kernel
theorem dL_isDay_246 : decode cL_isDay 246 = .ok (.iadd, 1) := by decide +kernel
theorem dL_isDay_247 : decode cL_isDay 247 = .ok (.iaload, 1) := by decide +kernel
theorem dL_isDay_248 : decode cL_isDay 248 = .ok (.imul, 1) := by decide +kernel
theorem dL_isDay_249 : decode cL_isDay 249 = .ok (.iconst 2, 1) := by decide +kernel
theorem dL_isDay_250 : decode cL_isDay 250 = .ok (.iadd, 1) := by decide +kernel
theorem dL_isDay_251 : decode cL_isDay 251 = .ok (.iaload, 1) := by decide +kernel
theorem dL_isDay_252 : decode cL_isDay 252 = .ok (.ifCond .ne 7, 3) := by decide +kernel
theorem dL_isDay_255 : decode cL_isDay 255 = .ok (.iconst (-1), 1) := by decide +kernel
theorem dL_isDay_256 : decode cL_isDay 256 = .ok (.goto 12, 3) := by decide +kernel
theorem dL_isDay_259 : decode cL_isDay 259 = .ok (.aload_n 1, 1) := by decide +kernel
theorem dL_isDay_260 : decode cL_isDay 260 = .ok (.bipush 10, 2) := by decide +kernel
theorem dL_isDay_262 : decode cL_isDay 262 = .ok (.iload 6, 2) := by decide +kernel
theorem dL_isDay_264 : decode cL_isDay 264 = .ok (.imul, 1) := by decide +kernel
theorem dL_isDay_265 : decode cL_isDay 265 = .ok (.iconst 3, 1) := by decide +kernel
theorem dL_isDay_266 : decode cL_isDay 266 = .ok (.iadd, 1) := by decide +kernel
theorem dL_isDay_267 : decode cL_isDay 267 = .ok (.iaload, 1) := by decide +kernel
theorem dL_isDay_268 : decode cL_isDay 268 = .ok (.iastore, 1) := by decide +kernel
theorem dL_isDay_269 : decode cL_isDay 269 = .ok (.iinc 6 1, 3) := by decide +kernel
theorem dL_isDay_272 : decode cL_isDay 272 = .ok (.goto (-63), 3) := by decide +kernel
theorem dL_isDay_275 : decode cL_isDay 275 = .ok (.aload_n 3, 1) := by decide +kernel
theorem dL_isDay_276 : decode cL_isDay 276 = .ok (.iconst 0, 1) := by decide +kernel
theorem dL_isDay_277 : decode cL_isDay 277 = .ok (.dup2, 1) := by decide +kernel
theorem dL_isDay_278 : decode cL_isDay 278 = .ok (.iaload, 1) := by decide +kernel
theorem dL_isDay_279 : decode cL_isDay 279 = .ok (.iconst 1, 1) := by decide +kernel
theorem dL_isDay_280 : decode cL_isDay 280 = .ok (.iadd, 1) := by decide +kernel
theorem dL_isDay_281 : decode cL_isDay 281 = .ok (.iastore, 1) := by decide +kernel
theorem dL_isDay_282 : decode cL_isDay 282 = .ok (.iconst 0, 1) := by decide +kernel
theorem dL_isDay_283 : decode cL_isDay 283 = .ok (.istore 6, 2) := by decide +kernel
theorem dL_isDay_285 : decode cL_isDay 285 = .ok (.iconst 0, 1) := by decide +kernel
theorem dL_isDay_286 : decode cL_isDay 286 = .ok (.istore 7, 2) := by decide +kernel
theorem dL_isDay_288 : decode cL_isDay 288 = .ok (.iload 7, 2) := by decide +kernel
theorem dL_isDay_290 : decode cL_isDay 290 = .ok (.aload_n 3, 1) := by decide +kernel
theorem dL_isDay_291 : decode cL_isDay 291 = .ok (.iconst 1, 1) := by decide +kernel
theorem dL_isDay_292 : decode cL_isDay 292 = .ok (.iaload, 1) := by decide +kernel
theorem dL_isDay_293 : decode cL_isDay 293 = .ok (.if_icmp .ge 123, 3) := by decide +kernel
theorem dL_isDay_296 : decode cL_isDay 296 = .ok (.aload 4, 2) := by decide +kernel
theorem dL_isDay_298 : decode cL_isDay 298 = .ok (.iload 7, 2) := by decide +kernel
theorem dL_isDay_300 : decode cL_isDay 300 = .ok (.aload_n 0, 1) := by decide +kernel
theorem dL_isDay_301 : decode cL_isDay 301 = .ok (.iload 7, 2) := by decide +kernel
theorem dL_isDay_303 : decode cL_isDay 303 = .ok (.invokevirtual 79, 3) := by decide +kernel
theorem dL_isDay_306 : decode cL_isDay 306 = .ok (.iastore, 1) := by decide +kernel
theorem dL_isDay_307 : decode cL_isDay 307 = .ok (.aload_n 1, 1) := by decide +kernel
theorem dL_isDay_308 : decode cL_isDay 308 = .ok (.bipush 10, 2) := by decide +kernel
theorem dL_isDay_310 : decode cL_isDay 310 = .ok (.iload 7, 2) := by decide +kernel
theorem dL_isDay_312 : decode cL_isDay 312 = .ok (.imul, 1) := by decide +kernel
theorem dL_isDay_313 : decode cL_isDay 313 = .ok (.iconst 4, 1) := by decide +kernel
theorem dL_isDay_314 : decode cL_isDay 314 = .ok (.iadd, 1) := by decide +kernel
theorem dL_isDay_315 : decode cL_isDay 315 = .ok (.iaload, 1) := by decide +kernel
theorem dL_isDay_316 : decode cL_isDay 316 = .ok (.ifCond .ne 94, 3) := by decide +kernel
theorem dL_isDay_319 : decode cL_isDay 319 = .ok (.aload_n 1, 1) := by decide +kernel
theorem dL_isDay_320 : decode cL_isDay 320 = .ok (.iload 7, 2) := by decide +kernel
theorem dL_isDay_322 : decode cL_isDay 322 = .ok (.invokestatic 88, 3) := by decide +kernel
theorem dL_isDay_325 : decode cL_isDay 325 = .ok (.aload_n 3, 1) := by decide +kernel
theorem dL_isDay_326 : decode cL_isDay 326 = .ok (.iconst 0, 1) := by decide +kernel
theorem dL_isDay_327 : decode cL_isDay 327 = .ok (.iaload, 1) := by decide +kernel
theorem dL_isDay_328 : decode cL_isDay 328 = .ok (.if_icmp .gt 82, 3) := by decide +kernel
theorem dL_isDay_331 : decode cL_isDay 331 = .ok (.aload_n 1, 1) := by decide +kernel
theorem dL_isDay_332 : decode cL_isDay 332 = .ok (.bipush 10, 2) := by decide +kernel
theorem dL_isDay_334 : decode cL_isDay 334 = .ok (.iload 7, 2) := by decide +kernel
theorem dL_isDay_336 : decode cL_isDay 336 = .ok (.imul, 1) := by decide +kernel
theorem dL_isDay_337 : decode cL_isDay 337 = .ok (.iconst 4, 1) := by decide +kernel
theorem dL_isDay_338 : decode cL_isDay 338 = .ok (.iadd, 1) := by decide +kernel
theorem dL_isDay_339 : decode cL_isDay 339 = .ok (.iconst 1, 1) := by decide +kernel
theorem dL_isDay_340 : decode cL_isDay 340 = .ok (.iastore, 1) := by decide +kernel
theorem dL_isDay_341 : decode cL_isDay 341 = .ok (.aload_n 1, 1) := by decide +kernel
theorem dL_isDay_342 : decode cL_isDay 342 = .ok (.bipush 10, 2) := by decide +kernel
theorem dL_isDay_344 : decode cL_isDay 344 = .ok (.iload 7, 2) := by decide +kernel
theorem dL_isDay_346 : decode cL_isDay 346 = .ok (.imul, 1) := by decide +kernel
theorem dL_isDay_347 : decode cL_isDay 347 = .ok (.iconst 5, 1) := by decide +kernel
theorem dL_isDay_348 : decode cL_isDay 348 = .ok (.iadd, 1) := by decide +kernel
theorem dL_isDay_349 : decode cL_isDay 349 = .ok (.aload_n 3, 1) := by decide +kernel
theorem dL_isDay_350 : decode cL_isDay 350 = .ok (.iconst 0, 1) := by decide +kernel
theorem dL_isDay_351 : decode cL_isDay 351 = .ok (.iaload, 1) := by decide +kernel
theorem dL_isDay_352 : decode cL_isDay 352 = .ok (.iastore, 1) := by decide +kernel
theorem dL_isDay_353 : decode cL_isDay 353 = .ok (.aload_n 1, 1) := by decide +kernel
theorem dL_isDay_354 : decode cL_isDay 354 = .ok (.bipush 10, 2) := by decide +kernel
theorem dL_isDay_356 : decode cL_isDay 356 = .ok (.iload 7, 2) := by decide +kernel
theorem dL_isDay_358 : decode cL_isDay 358 = .ok (.imul, 1) := by decide +kernel
theorem dL_isDay_359 : decode cL_isDay 359 = .ok (.iconst 3, 1) := by decide +kernel
theorem dL_isDay_360 : decode cL_isDay 360 = .ok (.iadd, 1) := by decide +kernel
theorem dL_isDay_361 : decode cL_isDay 361 = .ok (.iconst (-1), 1) := by decide +kernel
theorem dL_isDay_362 : decode cL_isDay 362 = .ok (.iastore, 1) := by decide +kernel
theorem dL_isDay_363 : decode cL_isDay 363 = .ok (.aload 4, 2) := by decide +kernel
theorem dL_isDay_365 : decode cL_isDay 365 = .ok (.iload 7, 2) := by decide +kernel
theorem dL_isDay_367 : decode cL_isDay 367 = .ok (.aload 5, 2) := by decide +kernel
theorem dL_isDay_369 : decode cL_isDay 369 = .ok (.iconst 4, 1) := by decide +kernel
theorem dL_isDay_370 : decode cL_isDay 370 = .ok (.iload 7, 2) := by decide +kernel
theorem dL_isDay_372 : decode cL_isDay 372 = .ok (.imul, 1) := by decide +kernel
theorem dL_isDay_373 : decode cL_isDay 373 = .ok (.iconst 2, 1) := by decide +kernel
theorem dL_isDay_374 : decode cL_isDay 374 = .ok (.iadd, 1) := by decide +kernel
theorem dL_isDay_375 : decode cL_isDay 375 = .ok (.iaload, 1) := by decide +kernel
theorem dL_isDay_376 : decode cL_isDay 376 = .ok (.aload 5, 2) := by decide +kernel
theorem dL_isDay_378 : decode cL_isDay 378 = .ok (.iconst 4, 1) := by decide +kernel
theorem dL_isDay_379 : decode cL_isDay 379 = .ok (.iload 7, 2) := by decide +kernel
theorem dL_isDay_381 : decode cL_isDay 381 = .ok (.imul, 1) := by decide +kernel
theorem dL_isDay_382 : decode cL_isDay 382 = .ok (.iconst 3, 1) := by decide +kernel
theorem dL_isDay_383 : decode cL_isDay 383 = .ok (.iadd, 1) := by decide +kernel
theorem dL_isDay_384 : decode cL_isDay 384 = .ok (.iaload, 1) := by decide +kernel
theorem dL_isDay_385 : decode cL_isDay 385 = .ok (.iadd, 1) := by decide +kernel
theorem dL_isDay_386 : decode cL_isDay 386 = .ok (.iastore, 1) := by decide +kernel
theorem dL_isDay_387 : decode cL_isDay 387 = .ok (.aload 5, 2) := by decide +kernel
theorem dL_isDay_389 : decode cL_isDay 389 = .ok (.iconst 4, 1) := by decide +kernel
theorem dL_isDay_390 : decode cL_isDay 390 = .ok (.iload 7, 2) := by decide +kernel
theorem dL_isDay_392 : decode cL_isDay 392 = .ok (.imul, 1) := by decide +kernel
theorem dL_isDay_393 : decode cL_isDay 393 = .ok (.iconst 2, 1) := by decide +kernel
theorem dL_isDay_394 : decode cL_isDay 394 = .ok (.iadd, 1) := by decide +kernel
theorem dL_isDay_395 : decode cL_isDay 395 = .ok (.iconst 0, 1) := by decide +kernel
theorem dL_isDay_396 : decode cL_isDay 396 = .ok (.iastore, 1) := by decide +kernel
theorem dL_isDay_397 : decode cL_isDay 397 = .ok (.aload 5, 2) := by decide +kernel
theorem dL_isDay_399 : decode cL_isDay 399 = .ok (.iconst 4, 1) := by decide +kernel
theorem dL_isDay_400 : decode cL_isDay 400 = .ok (.iload 7, 2) := by decide +kernel
theorem dL_isDay_402 : decode cL_isDay 402 = .ok (.imul, 1) := by decide +kernel
theorem dL_isDay_403 : decode cL_isDay 403 = .ok (.iconst 3, 1) := by decide +kernel
theorem dL_isDay_404 : decode cL_isDay 404 = .ok (.iadd, 1) := by decide +kernel
theorem dL_isDay_405 : decode cL_isDay 405 = .ok (.iconst 0, 1) := by decide +kernel
theorem dL_isDay_406 : decode cL_isDay 406 = .ok (.iastore, 1) := by decide +kernel
theorem dL_isDay_407 : decode cL_isDay 407 = .ok (.iinc 6 1, 3) := by decide +kernel
theorem dL_isDay_410 : decode cL_isDay 410 = .ok (.iinc 7 1, 3) := by decide +kernel
theorem dL_isDay_413 : decode cL_isDay 413 = .ok (.goto (-125), 3) := by decide +kernel
theorem dL_isDay_416 : decode cL_isDay 416 = .ok (.aload_n 0, 1) := by decide +kernel
theorem dL_isDay_417 : decode cL_isDay 417 = .ok (.iconst 1, 1) := by decide +kernel
theorem dL_isDay_418 : decode cL_isDay 418 = .ok (.invokevirtual 41, 3) := by decide +kernel
theorem dL_isDay_421 : decode cL_isDay 421 = .ok (.iload 6, 2) := by decide +kernel
theorem dL_isDay_423 : decode cL_isDay 423 = .ok (.if_icmp .ne 7, 3) := by decide +kernel
theorem dL_isDay_426 : decode cL_isDay 426 = .ok (.iconst 1, 1) := by decide +kernel
theorem dL_isDay_427 : decode cL_isDay 427 = .ok (.goto 4, 3) := by decide +kernel
theorem dL_isDay_430 : decode cL_isDay 430 = .ok (.iconst 0, 1) := by decide +kernel
theorem dL_isDay_431 : decode cL_isDay 431 = .ok (.istore 7, 2) := by decide +kernel
theorem dL_isDay_433 : decode cL_isDay 433 = .ok (.iconst 0, 1) := by decide +kernel
theorem dL_isDay_434 : decode cL_isDay 434 = .ok (.istore 8, 2) := by decide +kernel
theorem dL_isDay_436 : decode cL_isDay 436 = .ok (.iload 8, 2) := by decide +kernel
theorem dL_isDay_438 : decode cL_isDay 438 = .ok (.aload_n 3, 1) := by decide +kernel
theorem dL_isDay_439 : decode cL_isDay 439 = .ok (.iconst 1, 1) := by decide +kernel
theorem dL_isDay_440 : decode cL_isDay 440 = .ok (.iaload, 1) := by decide +kernel
theorem dL_isDay_441 : decode cL_isDay 441 = .ok (.if_icmp .ge 83, 3) := by decide +kernel
theorem dL_isDay_444 : decode cL_isDay 444 = .ok (.iload 7, 2) := by decide +kernel
theorem dL_isDay_446 : decode cL_isDay 446 = .ok (.ifCond .eq 78, 3) := by decide +kernel
theorem dL_isDay_449 : decode cL_isDay 449 = .ok (.aload_n 0, 1) := by decide +kernel
theorem dL_isDay_450 : decode cL_isDay 450 = .ok (.iload 8, 2) := by decide +kernel
theorem dL_isDay_452 : decode cL_isDay 452 = .ok (.invokevirtual 79, 3) := by decide +kernel
theorem dL_isDay_455 : decode cL_isDay 455 = .ok (.aload 4, 2) := by decide +kernel
theorem dL_isDay_457 : decode cL_isDay 457 = .ok (.iload 8, 2) := by decide +kernel
theorem dL_isDay_459 : decode cL_isDay 459 = .ok (.iaload, 1) := by decide +kernel
theorem dL_isDay_460 : decode cL_isDay 460 = .ok (.if_icmp .ne 7, 3) := by decide +kernel
theorem dL_isDay_463 : decode cL_isDay 463 = .ok (.iconst 1, 1) := by decide +kernel
theorem dL_isDay_464 : decode cL_isDay 464 = .ok (.goto 4, 3) := by decide +kernel
theorem dL_isDay_467 : decode cL_isDay 467 = .ok (.iconst 0, 1) := by decide +kernel
theorem dL_isDay_468 : decode cL_isDay 468 = .ok (.istore 7, 2) := by decide +kernel
theorem dL_isDay_470 : decode cL_isDay 470 = .ok (.iconst 0, 1) := by decide +kernel
theorem dL_isDay_471 : decode cL_isDay 471 = .ok (.istore 9, 2) := by decide +kernel
theorem dL_isDay_473 : decode cL_isDay 473 = .ok (.iload 9, 2) := by decide +kernel
theorem dL_isDay_475 : decode cL_isDay 475 = .ok (.iconst 4, 1) := by decide +kernel
theorem dL_isDay_476 : decode cL_isDay 476 = .ok (.if_icmp .ge 42, 3) := by decide +kernel
theorem dL_isDay_479 : decode cL_isDay 479 = .ok (.iload 7, 2) := by decide +kernel
theorem dL_isDay_481 : decode cL_isDay 481 = .ok (.ifCond .eq 37, 3) := by decide +kernel
theorem dL_isDay_484 : decode cL_isDay 484 = .ok (.aload_n 0, 1) := by decide +kernel
theorem dL_isDay_485 : decode cL_isDay 485 = .ok (.iload 8, 2) := by decide +kernel
theorem dL_isDay_487 : decode cL_isDay 487 = .ok (.iload 9, 2) := by decide +kernel
theorem dL_isDay_489 : decode cL_isDay 489 = .ok (.invokevirtual 73, 3) := by decide +kernel
theorem dL_isDay_492 : decode cL_isDay 492 = .ok (.aload 5, 2) := by decide +kernel
theorem dL_isDay_494 : decode cL_isDay 494 = .ok (.iconst 4, 1) := by decide +kernel
theorem dL_isDay_495 : decode cL_isDay 495 = .ok (.iload 8, 2) := by decide +kernel
theorem dL_isDay_497 : decode cL_isDay 497 = .ok (.imul, 1) := by decide +kernel
theorem dL_isDay_498 : decode cL_isDay 498 = .ok (.iload 9, 2) := by decide +kernel
theorem dL_isDay_500 : decode cL_isDay 500 = .ok (.iadd, 1) := by decide +kernel
theorem dL_isDay_501 : decode cL_isDay 501 = .ok (.iaload, 1) := by decide +kernel
theorem dL_isDay_502 : decode cL_isDay 502 = .ok (.if_icmp .ne 7, 3) := by decide +kernel
theorem dL_isDay_505 : decode cL_isDay 505 = .ok (.iconst 1, 1) := by decide +kernel
theorem dL_isDay_506 : decode cL_isDay 506 = .ok (.goto 4, 3) := by decide +kernel
theorem dL_isDay_509 : decode cL_isDay 509 = .ok (.iconst 0, 1) := by decide +kernel
theorem dL_isDay_510 : decode cL_isDay 510 = .ok (.istore 7, 2) := by decide +kernel
theorem dL_isDay_512 : decode cL_isDay 512 = .ok (.iinc 9 1, 3) := by decide +kernel
theorem dL_isDay_515 : decode cL_isDay 515 = .ok (.goto (-42), 3) := by decide +kernel
theorem dL_isDay_518 : decode cL_isDay 518 = .ok (.iinc 8 1, 3) := by decide +kernel
theorem dL_isDay_521 : decode cL_isDay 521 = .ok (.goto (-85), 3) := by decide +kernel
theorem dL_isDay_524 : decode cL_isDay 524 = .ok (.iload 7, 2) := by decide +kernel
theorem dL_isDay_526 : decode cL_isDay 526 = .ok (.ireturn, 1) := by decide +kernel
set_option maxRecDepth 20000 in
theorem ggL_isDone_L_part : GoodIn wsL_isDone wsL_part := goodIn_r _ [4, 5] (by decide +kernel) (by decide +kernel)
set_option maxRecDepth 20000 in
theorem gL_isDone_L_part : GoodIn wsL_isDone (va_wsS RL 100 yL_part wsL_part) := goodIn_app (goodIn_of _ (by decide +kernel)) ggL_isDone_L_part
set_option maxRecDepth 20000 in
theorem ggL_isDone_X5_isIn : GoodIn wsL_isDone wsX5_isIn := goodIn_ca (goodIn_r _ [10, 11, 12, 13, 14, 9, 15, 16, 17, 18, 322, 323, 324, 325, 326, 327, 328, 329, 330, 331, 332, 333, 334, 335, 336, 337, 338, 339, 340, 341] (by decide +kernel) (by decide +kernel)) (goodIn_sub (fun _ h => List.mem_cons_of_mem _ (List.mem_append_left _ (List.mem_append_left _ (List.mem_append_left _ (List.mem_append_right _ h))))) (by decide +kernel))
set_option maxRecDepth 20000 in
theorem gL_isDone_X5_isIn : GoodIn wsL_isDone (wsV RL 53 RX5 yX5_isIn wsX5_isIn) := goodIn_app (goodIn_of _ (by decide +kernel)) ggL_isDone_X5_isIn
set_option maxRecDepth 20000 in
theorem ggL_isDone_L_does : GoodIn wsL_isDone wsL_does := goodIn_ca (goodIn_ca (goodIn_ca (goodIn_ca (goodIn_r _ [21, 22, 23, 24, 25, 26, 27, 9, 28, 29, 30, 31, 18, 32, 33, 34, 35, 36, 37, 38, 39, 40, 41, 42, 43, 44, 45, 46, 47, 48, 49, 50, 51, 52, 53, 54, 55, 56, 57, 58, 59, 60, 61, 62, 63, 64, 65, 12, 13, 14, 15, 16, 17, 66, 67, 68, 69, 70, 71, 11, 72, 73, 74, 75, 76, 77, 78, 79, 80, 81, 82, 83, 84, 85, 86, 87, 88, 89, 90, 91, 92, 93, 94, 95, 96, 97, 98, 99, 100, 101, 102, 103, 104, 105, 106, 107, 108, 109, 110, 111, 112, 113, 114, 115, 116, 117, 118, 119, 120, 121, 122, 123, 124, 125, 126, 127, 128, 129, 130, 131, 132, 133, 134, 135, 136, 137, 138, 139, 140, 141, 142, 143, 144, 145, 146, 147, 148, 149, 150, 151, 152, 153, 154, 155, 156, 157, 158, 159, 160, 161, 162, 163, 164, 165, 166, 167, 168, 169, 170, 171, 172, 173, 174, 175, 176, 177, 178, 179, 180, 181, 182, 183, 184, 185, 186, 187, 188, 189, 190, 191, 192, 193, 194, 195, 196, 197, 198, 199, 200, 201, 202, 203, 204, 205, 206, 207, 208, 209, 210, 211, 212, 213, 214, 215, 216, 217, 218, 219, 220, 221, 222, 223, 224, 225, 226, 227, 228, 229, 230, 231, 232, 233, 234, 235, 236, 237, 238, 239, 240, 241, 242, 243, 244, 245, 246, 247, 248, 249, 250, 251, 252, 253, 254, 255, 256, 257, 258, 259, 260, 261, 262, 263, 264, 265, 266, 267, 268, 269, 270, 271, 272, 273, 274, 275, 276, 277, 278, 279, 280, 281, 282, 336, 337, 338, 339, 340, 341, 322, 323, 324, 325, 326, 327, 328, 329, 330, 331, 332, 333, 334, 335, 342, 343, 344, 345, 346, 347, 348, 349, 350, 351, 352, 353, 354, 355, 356, 357] (by decide +kernel) (by decide +kernel)) (goodIn_sub (fun _ h => List.mem_cons_of_mem _ (List.mem_append_left _ (List.mem_append_left _ (List.mem_append_right _ h)))) (by decide +kernel))) (goodIn_sub (fun _ h => List.mem_cons_of_mem _ (List.mem_append_left _ (List.mem_append_right _ h))) (by decide +kernel))) (goodIn_sub (fun _ h => List.mem_cons_of_mem _ (List.mem_append_left _ (List.mem_append_left _ (List.mem_append_left _ (List.mem_append_right _ h))))) (by decide +kernel))) (goodIn_sub (fun _ h => List.mem_cons_of_mem _ (List.mem_append_right _ h)) (by decide +kernel))
set_option maxRecDepth 20000 in
theorem gL_isDone_L_does : GoodIn wsL_isDone (va_wsS RL 96 yL_does wsL_does) := goodIn_app (goodIn_of _ (by decide +kernel)) ggL_isDone_L_does
set_option maxRecDepth 20000 in
theorem ggL_isDone_X5_regime : GoodIn wsL_isDone wsX5_regime := goodIn_ca (goodIn_r _ [286, 287, 12, 13, 14, 9, 15, 16, 17, 18, 322, 323, 324, 325, 326, 327, 328, 329, 330, 331, 332, 333, 334, 335, 336, 337, 338, 339, 340, 341] (by decide +kernel) (by decide +kernel)) (goodIn_sub (fun _ h => List.mem_cons_of_mem _ (List.mem_append_left _ (List.mem_append_left _ (List.mem_append_left _ (List.mem_append_right _ h))))) (by decide +kernel))
set_option maxRecDepth 20000 in
theorem gL_isDone_X5_regime : GoodIn wsL_isDone (wsV RL 57 RX5 yX5_regime wsX5_regime) := goodIn_app (goodIn_of _ (by decide +kernel)) ggL_isDone_X5_regime
set_option maxRecDepth 20000 in
theorem ggL_isDone_X5_limit : GoodIn wsL_isDone wsX5_limit := goodIn_ca (goodIn_r _ [291, 35, 12, 13, 14, 9, 15, 16, 17, 18, 215, 216, 217, 34, 218, 96, 53, 219, 220, 90, 221, 222, 223, 224, 225, 47, 49, 226, 227, 228, 113, 229, 230, 118, 231, 232, 233, 52, 234, 235, 236, 336, 337, 338, 339, 340, 341, 322, 323, 324, 325, 326, 327, 328, 329, 330, 331, 332, 333, 334, 335, 346, 347, 348, 349, 342, 343, 344, 345] (by decide +kernel) (by decide +kernel)) (goodIn_sub (fun _ h => List.mem_cons_of_mem _ (List.mem_append_left _ (List.mem_append_left _ (List.mem_append_left _ (List.mem_append_right _ h))))) (by decide +kernel))
set_option maxRecDepth 20000 in
theorem gL_isDone_X5_limit : GoodIn wsL_isDone (wsV RL 76 RX5 yX5_limit wsX5_limit) := goodIn_app (goodIn_of _ (by decide +kernel)) ggL_isDone_X5_limit
set_option maxRecDepth 20000 in
theorem ggL_isDone_L_isPaper : GoodIn wsL_isDone wsL_isPaper := goodIn_ca (goodIn_ca (goodIn_ca (goodIn_ca (goodIn_r _ [294, 19, 20, 3, 21, 22, 23, 24, 25, 26, 27, 9, 28, 29, 30, 31, 18, 32, 33, 34, 35, 36, 37, 38, 39, 40, 41, 42, 43, 44, 45, 46, 47, 48, 49, 50, 51, 52, 53, 54, 55, 56, 57, 58, 59, 60, 61, 62, 63, 64, 65, 12, 13, 14, 15, 16, 17, 66, 67, 68, 69, 70, 71, 11, 72, 73, 74, 75, 76, 77, 78, 79, 80, 81, 82, 83, 84, 85, 86, 87, 88, 89, 90, 91, 92, 93, 94, 95, 96, 97, 98, 99, 100, 101, 102, 103, 104, 105, 106, 107, 108, 109, 110, 111, 112, 113, 114, 115, 116, 117, 118, 119, 120, 121, 122, 123, 124, 125, 126, 127, 128, 129, 130, 131, 132, 133, 134, 135, 136, 137, 138, 139, 140, 141, 142, 143, 144, 145, 146, 147, 148, 149, 150, 151, 152, 153, 154, 155, 156, 157, 158, 159, 160, 161, 162, 163, 164, 165, 166, 167, 168, 169, 170, 171, 172, 173, 174, 175, 176, 177, 178, 179, 180, 181, 182, 183, 184, 185, 186, 187, 188, 189, 190, 191, 192, 193, 194, 195, 196, 197, 198, 199, 200, 201, 202, 203, 204, 205, 206, 207, 208, 209, 210, 211, 212, 213, 214, 215, 216, 217, 218, 219, 220, 221, 222, 223, 224, 225, 226, 227, 228, 229, 230, 231, 232, 233, 234, 235, 236, 237, 238, 239, 240, 241, 242, 243, 244, 245, 246, 247, 248, 249, 250, 251, 252, 253, 254, 255, 256, 257, 258, 259, 260, 261, 262, 263, 264, 265, 266, 267, 268, 269, 270, 271, 272, 273, 274, 275, 276, 277, 278, 279, 280, 281, 282, 283, 284, 285, 286, 287, 295, 296, 297, 6, 7, 8, 10, 336, 337, 338, 339, 340, 341, 322, 323, 324, 325, 326, 327, 328, 329, 330, 331, 332, 333, 334, 335, 342, 343, 344, 345, 346, 347, 348, 349, 350, 351, 352, 353, 354, 355, 356, 357] (by decide +kernel) (by decide +kernel)) (goodIn_sub (fun _ h => List.mem_cons_of_mem _ (List.mem_append_left _ (List.mem_append_left _ (List.mem_append_right _ h)))) (by decide +kernel))) (goodIn_sub (fun _ h => List.mem_cons_of_mem _ (List.mem_append_left _ (List.mem_append_right _ h))) (by decide +kernel))) (goodIn_sub (fun _ h => List.mem_cons_of_mem _ (List.mem_append_left _ (List.mem_append_left _ (List.mem_append_left _ (List.mem_append_right _ h))))) (by decide +kernel))) (goodIn_sub (fun _ h => List.mem_cons_of_mem _ (List.mem_append_right _ h)) (by decide +kernel))
set_option maxRecDepth 20000 in
theorem gL_isDone_L_isPaper : GoodIn wsL_isDone (va_wsS RL 104 yL_isPaper wsL_isPaper) := goodIn_app (goodIn_of _ (by decide +kernel)) ggL_isDone_L_isPaper
set_option maxRecDepth 20000 in
theorem ggL_isDone_L_isAppealed : GoodIn wsL_isDone wsL_isAppealed := goodIn_ca (goodIn_ca (goodIn_ca (goodIn_ca (goodIn_r _ [300, 19, 20, 3, 21, 22, 23, 24, 25, 26, 27, 9, 28, 29, 30, 31, 18, 32, 33, 34, 35, 36, 37, 38, 39, 40, 41, 42, 43, 44, 45, 46, 47, 48, 49, 50, 51, 52, 53, 54, 55, 56, 57, 58, 59, 60, 61, 62, 63, 64, 65, 12, 13, 14, 15, 16, 17, 66, 67, 68, 69, 70, 71, 11, 72, 73, 74, 75, 76, 77, 78, 79, 80, 81, 82, 83, 84, 85, 86, 87, 88, 89, 90, 91, 92, 93, 94, 95, 96, 97, 98, 99, 100, 101, 102, 103, 104, 105, 106, 107, 108, 109, 110, 111, 112, 113, 114, 115, 116, 117, 118, 119, 120, 121, 122, 123, 124, 125, 126, 127, 128, 129, 130, 131, 132, 133, 134, 135, 136, 137, 138, 139, 140, 141, 142, 143, 144, 145, 146, 147, 148, 149, 150, 151, 152, 153, 154, 155, 156, 157, 158, 159, 160, 161, 162, 163, 164, 165, 166, 167, 168, 169, 170, 171, 172, 173, 174, 175, 176, 177, 178, 179, 180, 181, 182, 183, 184, 185, 186, 187, 188, 189, 190, 191, 192, 193, 194, 195, 196, 197, 198, 199, 200, 201, 202, 203, 204, 205, 206, 207, 208, 209, 210, 211, 212, 213, 214, 215, 216, 217, 218, 219, 220, 221, 222, 223, 224, 225, 226, 227, 228, 229, 230, 231, 232, 233, 234, 235, 236, 237, 238, 239, 240, 241, 242, 243, 244, 245, 246, 247, 248, 249, 250, 251, 252, 253, 254, 255, 256, 257, 258, 259, 260, 261, 262, 263, 264, 265, 266, 267, 268, 269, 270, 271, 272, 273, 274, 275, 276, 277, 278, 279, 280, 281, 282, 283, 284, 285, 286, 287, 288, 289, 290, 291, 295, 296, 297, 336, 337, 338, 339, 340, 341, 322, 323, 324, 325, 326, 327, 328, 329, 330, 331, 332, 333, 334, 335, 342, 343, 344, 345, 346, 347, 348, 349, 350, 351, 352, 353, 354, 355, 356, 357] (by decide +kernel) (by decide +kernel)) (goodIn_sub (fun _ h => List.mem_cons_of_mem _ (List.mem_append_left _ (List.mem_append_left _ (List.mem_append_right _ h)))) (by decide +kernel))) (goodIn_sub (fun _ h => List.mem_cons_of_mem _ (List.mem_append_left _ (List.mem_append_right _ h))) (by decide +kernel))) (goodIn_sub (fun _ h => List.mem_cons_of_mem _ (List.mem_append_left _ (List.mem_append_left _ (List.mem_append_left _ (List.mem_append_right _ h))))) (by decide +kernel))) (goodIn_sub (fun _ h => List.mem_cons_of_mem _ (List.mem_append_right _ h)) (by decide +kernel))
set_option maxRecDepth 20000 in
theorem gL_isDone_L_isAppealed : GoodIn wsL_isDone (va_wsS RL 108 yL_isAppealed wsL_isAppealed) := goodIn_app (goodIn_of _ (by decide +kernel)) ggL_isDone_L_isAppealed
set_option maxRecDepth 20000 in
theorem ggL_isDone_L_out : GoodIn wsL_isDone wsL_out := goodIn_r _ [303] (by decide +kernel) (by decide +kernel)
set_option maxRecDepth 20000 in
theorem gL_isDone_L_out : GoodIn wsL_isDone (va_wsS RL 92 yL_out wsL_out) := goodIn_app (goodIn_of _ (by decide +kernel)) ggL_isDone_L_out
set_option maxRecDepth 20000 in
theorem ggL_isDone_L_isAssigned : GoodIn wsL_isDone wsL_isAssigned := goodIn_ca (goodIn_ca (goodIn_ca (goodIn_ca (goodIn_r _ [306, 301, 302, 3, 303, 19, 20, 21, 22, 23, 24, 25, 26, 27, 9, 28, 29, 30, 31, 18, 32, 33, 34, 35, 36, 37, 38, 39, 40, 41, 42, 43, 44, 45, 46, 47, 48, 49, 50, 51, 52, 53, 54, 55, 56, 57, 58, 59, 60, 61, 62, 63, 64, 65, 12, 13, 14, 15, 16, 17, 66, 67, 68, 69, 70, 71, 11, 72, 73, 74, 75, 76, 77, 78, 79, 80, 81, 82, 83, 84, 85, 86, 87, 88, 89, 90, 91, 92, 93, 94, 95, 96, 97, 98, 99, 100, 101, 102, 103, 104, 105, 106, 107, 108, 109, 110, 111, 112, 113, 114, 115, 116, 117, 118, 119, 120, 121, 122, 123, 124, 125, 126, 127, 128, 129, 130, 131, 132, 133, 134, 135, 136, 137, 138, 139, 140, 141, 142, 143, 144, 145, 146, 147, 148, 149, 150, 151, 152, 153, 154, 155, 156, 157, 158, 159, 160, 161, 162, 163, 164, 165, 166, 167, 168, 169, 170, 171, 172, 173, 174, 175, 176, 177, 178, 179, 180, 181, 182, 183, 184, 185, 186, 187, 188, 189, 190, 191, 192, 193, 194, 195, 196, 197, 198, 199, 200, 201, 202, 203, 204, 205, 206, 207, 208, 209, 210, 211, 212, 213, 214, 215, 216, 217, 218, 219, 220, 221, 222, 223, 224, 225, 226, 227, 228, 229, 230, 231, 232, 233, 234, 235, 236, 237, 238, 239, 240, 241, 242, 243, 244, 245, 246, 247, 248, 249, 250, 251, 252, 253, 254, 255, 256, 257, 258, 259, 260, 261, 262, 263, 264, 265, 266, 267, 268, 269, 270, 271, 272, 273, 274, 275, 276, 277, 278, 279, 280, 281, 282, 336, 337, 338, 339, 340, 341, 322, 323, 324, 325, 326, 327, 328, 329, 330, 331, 332, 333, 334, 335, 342, 343, 344, 345, 346, 347, 348, 349, 350, 351, 352, 353, 354, 355, 356, 357] (by decide +kernel) (by decide +kernel)) (goodIn_sub (fun _ h => List.mem_cons_of_mem _ (List.mem_append_left _ (List.mem_append_left _ (List.mem_append_right _ h)))) (by decide +kernel))) (goodIn_sub (fun _ h => List.mem_cons_of_mem _ (List.mem_append_left _ (List.mem_append_right _ h))) (by decide +kernel))) (goodIn_sub (fun _ h => List.mem_cons_of_mem _ (List.mem_append_left _ (List.mem_append_left _ (List.mem_append_left _ (List.mem_append_right _ h))))) (by decide +kernel))) (goodIn_sub (fun _ h => List.mem_cons_of_mem _ (List.mem_append_right _ h)) (by decide +kernel))
set_option maxRecDepth 20000 in
theorem gL_isDone_L_isAssigned : GoodIn wsL_isDone (va_wsS RL 112 yL_isAssigned wsL_isAssigned) := goodIn_app (goodIn_of _ (by decide +kernel)) ggL_isDone_L_isAssigned
set_option maxRecDepth 20000 in
theorem ggL_isDone_L_isBought : GoodIn wsL_isDone wsL_isBought := goodIn_ca (goodIn_ca (goodIn_ca (goodIn_ca (goodIn_r _ [309, 19, 20, 3, 21, 22, 23, 24, 25, 26, 27, 9, 28, 29, 30, 31, 18, 32, 33, 34, 35, 36, 37, 38, 39, 40, 41, 42, 43, 44, 45, 46, 47, 48, 49, 50, 51, 52, 53, 54, 55, 56, 57, 58, 59, 60, 61, 62, 63, 64, 65, 12, 13, 14, 15, 16, 17, 66, 67, 68, 69, 70, 71, 11, 72, 73, 74, 75, 76, 77, 78, 79, 80, 81, 82, 83, 84, 85, 86, 87, 88, 89, 90, 91, 92, 93, 94, 95, 96, 97, 98, 99, 100, 101, 102, 103, 104, 105, 106, 107, 108, 109, 110, 111, 112, 113, 114, 115, 116, 117, 118, 119, 120, 121, 122, 123, 124, 125, 126, 127, 128, 129, 130, 131, 132, 133, 134, 135, 136, 137, 138, 139, 140, 141, 142, 143, 144, 145, 146, 147, 148, 149, 150, 151, 152, 153, 154, 155, 156, 157, 158, 159, 160, 161, 162, 163, 164, 165, 166, 167, 168, 169, 170, 171, 172, 173, 174, 175, 176, 177, 178, 179, 180, 181, 182, 183, 184, 185, 186, 187, 188, 189, 190, 191, 192, 193, 194, 195, 196, 197, 198, 199, 200, 201, 202, 203, 204, 205, 206, 207, 208, 209, 210, 211, 212, 213, 214, 215, 216, 217, 218, 219, 220, 221, 222, 223, 224, 225, 226, 227, 228, 229, 230, 231, 232, 233, 234, 235, 236, 237, 238, 239, 240, 241, 242, 243, 244, 245, 246, 247, 248, 249, 250, 251, 252, 253, 254, 255, 256, 257, 258, 259, 260, 261, 262, 263, 264, 265, 266, 267, 268, 269, 270, 271, 272, 273, 274, 275, 276, 277, 278, 279, 280, 281, 282, 288, 289, 290, 291, 310, 311, 312, 313, 336, 337, 338, 339, 340, 341, 322, 323, 324, 325, 326, 327, 328, 329, 330, 331, 332, 333, 334, 335, 342, 343, 344, 345, 346, 347, 348, 349, 350, 351, 352, 353, 354, 355, 356, 357] (by decide +kernel) (by decide +kernel)) (goodIn_sub (fun _ h => List.mem_cons_of_mem _ (List.mem_append_left _ (List.mem_append_left _ (List.mem_append_right _ h)))) (by decide +kernel))) (goodIn_sub (fun _ h => List.mem_cons_of_mem _ (List.mem_append_left _ (List.mem_append_right _ h))) (by decide +kernel))) (goodIn_sub (fun _ h => List.mem_cons_of_mem _ (List.mem_append_left _ (List.mem_append_left _ (List.mem_append_left _ (List.mem_append_right _ h))))) (by decide +kernel))) (goodIn_sub (fun _ h => List.mem_cons_of_mem _ (List.mem_append_right _ h)) (by decide +kernel))
set_option maxRecDepth 20000 in
theorem gL_isDone_L_isBought : GoodIn wsL_isDone (va_wsS RL 116 yL_isBought wsL_isBought) := goodIn_app (goodIn_of _ (by decide +kernel)) ggL_isDone_L_isBought
set_option maxRecDepth 20000 in
theorem ggL_isDone_L_isDay : GoodIn wsL_isDone wsL_isDay := goodIn_ca (goodIn_ca (goodIn_r _ [316, 60, 310, 311, 312, 9, 313, 16, 17, 213, 214, 12, 13, 14, 15, 18, 317, 318, 319, 320, 321, 295, 296, 3, 297, 242, 243, 244, 245, 35, 36, 37, 38, 39, 40, 246, 247, 248, 249, 250, 251, 252, 34, 253, 125, 254, 103, 53, 255, 256, 190, 191, 164, 192, 172, 257, 258, 259, 52, 260, 61, 261, 262, 263, 264, 121, 122, 123, 124, 126, 127, 128, 265, 266, 267, 268, 269, 270, 271, 272, 96, 273, 93, 94, 95, 97, 54, 55, 88, 89, 90, 91, 98, 99, 100, 101, 102, 78, 274, 275, 276, 277, 278, 279, 280, 281, 282, 322, 323, 324, 325, 326, 327, 328, 329, 330, 331, 332, 333, 334, 335, 342, 343, 344, 345, 336, 337, 338, 339, 340, 341, 350, 351, 352, 353, 354, 355, 356, 357] (by decide +kernel) (by decide +kernel)) (goodIn_sub (fun _ h => List.mem_cons_of_mem _ (List.mem_append_left _ (List.mem_append_left _ (List.mem_append_left _ (List.mem_append_right _ h))))) (by decide +kernel))) (goodIn_sub (fun _ h => List.mem_cons_of_mem _ (List.mem_append_left _ (List.mem_append_right _ h))) (by decide +kernel))
set_option maxRecDepth 20000 in
theorem gL_isDone_L_isDay : GoodIn wsL_isDone (va_wsS RL 120 yL_isDay wsL_isDay) := goodIn_app (goodIn_of _ (by decide +kernel)) ggL_isDone_L_isDay
theorem dL_isDone_0 : decode cL_isDone 0 = .ok (.aload_n 1, 1) := by decide +kernel
theorem dL_isDone_1 : decode cL_isDone 1 = .ok (.iload_n 2, 1) := by decide +kernel
theorem dL_isDone_2 : decode cL_isDone 2 = .ok (.bipush 40, 2) := by decide +kernel
theorem dL_isDone_4 : decode cL_isDone 4 = .ok (.invokestatic 100, 3) := by decide +kernel
theorem dL_isDone_7 : decode cL_isDone 7 = .ok (.istore 8, 2) := by decide +kernel
theorem dL_isDone_9 : decode cL_isDone 9 = .ok (.aload_n 1, 1) := by decide +kernel
theorem dL_isDone_10 : decode cL_isDone 10 = .ok (.iload_n 2, 1) := by decide +kernel
theorem dL_isDone_11 : decode cL_isDone 11 = .ok (.iconst 1, 1) := by decide +kernel
theorem dL_isDone_12 : decode cL_isDone 12 = .ok (.iadd, 1) := by decide +kernel
theorem dL_isDone_13 : decode cL_isDone 13 = .ok (.sipush 6000, 3) := by decide +kernel
theorem dL_isDone_16 : decode cL_isDone 16 = .ok (.invokestatic 100, 3) := by decide +kernel
theorem dL_isDone_19 : decode cL_isDone 19 = .ok (.istore 9, 2) := by decide +kernel
theorem dL_isDone_21 : decode cL_isDone 21 = .ok (.aload_n 1, 1) := by decide +kernel
theorem dL_isDone_22 : decode cL_isDone 22 = .ok (.iload_n 2, 1) := by decide +kernel
theorem dL_isDone_23 : decode cL_isDone 23 = .ok (.iconst 2, 1) := by decide +kernel
theorem dL_isDone_24 : decode cL_isDone 24 = .ok (.iadd, 1) := by decide +kernel
theorem dL_isDone_25 : decode cL_isDone 25 = .ok (.sipush 7000, 3) := by decide +kernel
theorem dL_isDone_28 : decode cL_isDone 28 = .ok (.invokestatic 100, 3) := by decide +kernel
theorem dL_isDone_31 : decode cL_isDone 31 = .ok (.istore 10, 2) := by decide +kernel
theorem dL_isDone_33 : decode cL_isDone 33 = .ok (.aload_n 1, 1) := by decide +kernel
theorem dL_isDone_34 : decode cL_isDone 34 = .ok (.iload_n 2, 1) := by decide +kernel
theorem dL_isDone_35 : decode cL_isDone 35 = .ok (.iconst 3, 1) := by decide +kernel
theorem dL_isDone_36 : decode cL_isDone 36 = .ok (.iadd, 1) := by decide +kernel
theorem dL_isDone_37 : decode cL_isDone 37 = .ok (.sipush 8000, 3) := by decide +kernel
theorem dL_isDone_40 : decode cL_isDone 40 = .ok (.invokestatic 100, 3) := by decide +kernel
theorem dL_isDone_43 : decode cL_isDone 43 = .ok (.istore 11, 2) := by decide +kernel
theorem dL_isDone_45 : decode cL_isDone 45 = .ok (.iload 9, 2) := by decide +kernel
theorem dL_isDone_47 : decode cL_isDone 47 = .ok (.bipush 20, 2) := by decide +kernel
theorem dL_isDone_49 : decode cL_isDone 49 = .ok (.irem, 1) := by decide +kernel
theorem dL_isDone_50 : decode cL_isDone 50 = .ok (.ifCond .eq 10, 3) := by decide +kernel
theorem dL_isDone_53 : decode cL_isDone 53 = .ok (.aload 7, 2) := by decide +kernel
theorem dL_isDone_55 : decode cL_isDone 55 = .ok (.iconst 1, 1) := by decide +kernel
theorem dL_isDone_56 : decode cL_isDone 56 = .ok (.iaload, 1) := by decide +kernel
theorem dL_isDone_57 : decode cL_isDone 57 = .ok (.ifCond .ne 10, 3) := by decide +kernel
theorem dL_isDone_60 : decode cL_isDone 60 = .ok (.aload 7, 2) := by decide +kernel
theorem dL_isDone_62 : decode cL_isDone 62 = .ok (.iconst 1, 1) := by decide +kernel
theorem dL_isDone_63 : decode cL_isDone 63 = .ok (.iaload, 1) := by decide +kernel
theorem dL_isDone_64 : decode cL_isDone 64 = .ok (.goto 10, 3) := by decide +kernel
theorem dL_isDone_67 : decode cL_isDone 67 = .ok (.iload 9, 2) := by decide +kernel
theorem dL_isDone_69 : decode cL_isDone 69 = .ok (.aload 7, 2) := by decide +kernel
theorem dL_isDone_71 : decode cL_isDone 71 = .ok (.iconst 1, 1) := by decide +kernel
theorem dL_isDone_72 : decode cL_isDone 72 = .ok (.iaload, 1) := by decide +kernel
theorem dL_isDone_73 : decode cL_isDone 73 = .ok (.irem, 1) := by decide +kernel
theorem dL_isDone_74 : decode cL_isDone 74 = .ok (.istore 12, 2) := by decide +kernel
theorem dL_isDone_76 : decode cL_isDone 76 = .ok (.iload 8, 2) := by decide +kernel
theorem dL_isDone_78 : decode cL_isDone 78 = .ok (.iconst 5, 1) := by decide +kernel
theorem dL_isDone_79 : decode cL_isDone 79 = .ok (.if_icmp .ge 215, 3) := by decide +kernel
theorem dL_isDone_82 : decode cL_isDone 82 = .ok (.iload 10, 2) := by decide +kernel
theorem dL_isDone_84 : decode cL_isDone 84 = .ok (.bipush 30, 2) := by decide +kernel
theorem dL_isDone_86 : decode cL_isDone 86 = .ok (.irem, 1) := by decide +kernel
theorem dL_isDone_87 : decode cL_isDone 87 = .ok (.ifCond .ne 9, 3) := by decide +kernel
theorem dL_isDone_90 : decode cL_isDone 90 = .ok (.sipush 2001, 3) := by decide +kernel
theorem dL_isDone_93 : decode cL_isDone 93 = .ok (.goto 10, 3) := by decide +kernel
theorem dL_isDone_96 : decode cL_isDone 96 = .ok (.iconst 1, 1) := by decide +kernel
theorem dL_isDone_97 : decode cL_isDone 97 = .ok (.iload 10, 2) := by decide +kernel
theorem dL_isDone_99 : decode cL_isDone 99 = .ok (.bipush 60, 2) := by decide +kernel
theorem dL_isDone_101 : decode cL_isDone 101 = .ok (.irem, 1) := by decide +kernel
theorem dL_isDone_102 : decode cL_isDone 102 = .ok (.iadd, 1) := by decide +kernel
theorem dL_isDone_103 : decode cL_isDone 103 = .ok (.istore 13, 2) := by decide +kernel
theorem dL_isDone_105 : decode cL_isDone 105 = .ok (.iload 11, 2) := by decide +kernel
theorem dL_isDone_107 : decode cL_isDone 107 = .ok (.bipush 17, 2) := by decide +kernel
theorem dL_isDone_109 : decode cL_isDone 109 = .ok (.irem, 1) := by decide +kernel
theorem dL_isDone_110 : decode cL_isDone 110 = .ok (.istore 14, 2) := by decide +kernel
theorem dL_isDone_112 : decode cL_isDone 112 = .ok (.iload 13, 2) := by decide +kernel
theorem dL_isDone_114 : decode cL_isDone 114 = .ok (.sipush 2001, 3) := by decide +kernel
theorem dL_isDone_117 : decode cL_isDone 117 = .ok (.if_icmp .ge 14, 3) := by decide +kernel
theorem dL_isDone_120 : decode cL_isDone 120 = .ok (.iload 14, 2) := by decide +kernel
theorem dL_isDone_122 : decode cL_isDone 122 = .ok (.bipush 16, 2) := by decide +kernel
theorem dL_isDone_124 : decode cL_isDone 124 = .ok (.if_icmp .ge 7, 3) := by decide +kernel
theorem dL_isDone_127 : decode cL_isDone 127 = .ok (.iconst 1, 1) := by decide +kernel
theorem dL_isDone_128 : decode cL_isDone 128 = .ok (.goto 4, 3) := by decide +kernel
theorem dL_isDone_131 : decode cL_isDone 131 = .ok (.iconst 0, 1) := by decide +kernel
theorem dL_isDone_132 : decode cL_isDone 132 = .ok (.istore 15, 2) := by decide +kernel
theorem dL_isDone_134 : decode cL_isDone 134 = .ok (.iload 15, 2) := by decide +kernel
theorem dL_isDone_136 : decode cL_isDone 136 = .ok (.ifCond .eq 38, 3) := by decide +kernel
theorem dL_isDone_139 : decode cL_isDone 139 = .ok (.aload 7, 2) := by decide +kernel
theorem dL_isDone_141 : decode cL_isDone 141 = .ok (.iconst 1, 1) := by decide +kernel
theorem dL_isDone_142 : decode cL_isDone 142 = .ok (.iaload, 1) := by decide +kernel
theorem dL_isDone_143 : decode cL_isDone 143 = .ok (.bipush 6, 2) := by decide +kernel
theorem dL_isDone_145 : decode cL_isDone 145 = .ok (.if_icmp .ne 29, 3) := by decide +kernel
theorem dL_isDone_148 : decode cL_isDone 148 = .ok (.aload_n 0, 1) := by decide +kernel
theorem dL_isDone_149 : decode cL_isDone 149 = .ok (.iconst 5, 1) := by decide +kernel
theorem dL_isDone_150 : decode cL_isDone 150 = .ok (.invokevirtual 53, 3) := by decide +kernel
theorem dL_isDone_153 : decode cL_isDone 153 = .ok (.aload_n 3, 1) := by decide +kernel
theorem dL_isDone_154 : decode cL_isDone 154 = .ok (.bipush 54, 2) := by decide +kernel
theorem dL_isDone_156 : decode cL_isDone 156 = .ok (.iaload, 1) := by decide +kernel
theorem dL_isDone_157 : decode cL_isDone 157 = .ok (.ifCond .ne 7, 3) := by decide +kernel
theorem dL_isDone_160 : decode cL_isDone 160 = .ok (.iconst 1, 1) := by decide +kernel
theorem dL_isDone_161 : decode cL_isDone 161 = .ok (.goto 4, 3) := by decide +kernel
theorem dL_isDone_164 : decode cL_isDone 164 = .ok (.iconst 0, 1) := by decide +kernel
theorem dL_isDone_165 : decode cL_isDone 165 = .ok (.if_icmp .ne 7, 3) := by decide +kernel
theorem dL_isDone_168 : decode cL_isDone 168 = .ok (.iconst 1, 1) := by decide +kernel
theorem dL_isDone_169 : decode cL_isDone 169 = .ok (.goto 4, 3) := by decide +kernel
theorem dL_isDone_172 : decode cL_isDone 172 = .ok (.iconst 0, 1) := by decide +kernel
theorem dL_isDone_173 : decode cL_isDone 173 = .ok (.ireturn, 1) := by decide +kernel
theorem dL_isDone_174 : decode cL_isDone 174 = .ok (.iload 15, 2) := by decide +kernel
theorem dL_isDone_176 : decode cL_isDone 176 = .ok (.ifCond .eq 10, 3) := by decide +kernel
theorem dL_isDone_179 : decode cL_isDone 179 = .ok (.aload 7, 2) := by decide +kernel
theorem dL_isDone_181 : decode cL_isDone 181 = .ok (.iconst 1, 1) := by decide +kernel
theorem dL_isDone_182 : decode cL_isDone 182 = .ok (.iaload, 1) := by decide +kernel
theorem dL_isDone_183 : decode cL_isDone 183 = .ok (.goto 5, 3) := by decide +kernel
theorem dL_isDone_186 : decode cL_isDone 186 = .ok (.bipush (-20), 2) := by decide +kernel
theorem dL_isDone_188 : decode cL_isDone 188 = .ok (.istore 16, 2) := by decide +kernel
theorem dL_isDone_190 : decode cL_isDone 190 = .ok (.iload 15, 2) := by decide +kernel
theorem dL_isDone_192 : decode cL_isDone 192 = .ok (.ifCond .eq 54, 3) := by decide +kernel
theorem dL_isDone_195 : decode cL_isDone 195 = .ok (.aload_n 3, 1) := by decide +kernel
theorem dL_isDone_196 : decode cL_isDone 196 = .ok (.bipush 10, 2) := by decide +kernel
theorem dL_isDone_198 : decode cL_isDone 198 = .ok (.iload 16, 2) := by decide +kernel
theorem dL_isDone_200 : decode cL_isDone 200 = .ok (.imul, 1) := by decide +kernel
theorem dL_isDone_201 : decode cL_isDone 201 = .ok (.aload 7, 2) := by decide +kernel
theorem dL_isDone_203 : decode cL_isDone 203 = .ok (.iconst 0, 1) := by decide +kernel
theorem dL_isDone_204 : decode cL_isDone 204 = .ok (.iaload, 1) := by decide +kernel
theorem dL_isDone_205 : decode cL_isDone 205 = .ok (.iastore, 1) := by decide +kernel
theorem dL_isDone_206 : decode cL_isDone 206 = .ok (.aload_n 3, 1) := by decide +kernel
theorem dL_isDone_207 : decode cL_isDone 207 = .ok (.bipush 10, 2) := by decide +kernel
theorem dL_isDone_209 : decode cL_isDone 209 = .ok (.iload 16, 2) := by decide +kernel
theorem dL_isDone_211 : decode cL_isDone 211 = .ok (.imul, 1) := by decide +kernel
theorem dL_isDone_212 : decode cL_isDone 212 = .ok (.iconst 1, 1) := by decide +kernel
theorem dL_isDone_213 : decode cL_isDone 213 = .ok (.iadd, 1) := by decide +kernel
theorem dL_isDone_214 : decode cL_isDone 214 = .ok (.iload 13, 2) := by decide +kernel
theorem dL_isDone_216 : decode cL_isDone 216 = .ok (.iastore, 1) := by decide +kernel
theorem dL_isDone_217 : decode cL_isDone 217 = .ok (.aload_n 3, 1) := by decide +kernel
theorem dL_isDone_218 : decode cL_isDone 218 = .ok (.bipush 10, 2) := by decide +kernel
theorem dL_isDone_220 : decode cL_isDone 220 = .ok (.iload 16, 2) := by decide +kernel
theorem dL_isDone_222 : decode cL_isDone 222 = .ok (.imul, 1) := by decide +kernel
theorem dL_isDone_223 : decode cL_isDone 223 = .ok (.iconst 2, 1) := by decide +kernel
theorem dL_isDone_224 : decode cL_isDone 224 = .ok (.iadd, 1) := by decide +kernel
theorem dL_isDone_225 : decode cL_isDone 225 = .ok (.iload 14, 2) := by decide +kernel
theorem dL_isDone_227 : decode cL_isDone 227 = .ok (.iastore, 1) := by decide +kernel
theorem dL_isDone_228 : decode cL_isDone 228 = .ok (.aload_n 3, 1) := by decide +kernel
theorem dL_isDone_229 : decode cL_isDone 229 = .ok (.bipush 10, 2) := by decide +kernel
theorem dL_isDone_231 : decode cL_isDone 231 = .ok (.iload 16, 2) := by decide +kernel
theorem dL_isDone_233 : decode cL_isDone 233 = .ok (.imul, 1) := by decide +kernel
theorem dL_isDone_234 : decode cL_isDone 234 = .ok (.iconst 3, 1) := by decide +kernel
theorem dL_isDone_235 : decode cL_isDone 235 = .ok (.iadd, 1) := by decide +kernel
theorem dL_isDone_236 : decode cL_isDone 236 = .ok (.iconst (-1), 1) := by decide +kernel
theorem dL_isDone_237 : decode cL_isDone 237 = .ok (.iastore, 1) := by decide +kernel
theorem dL_isDone_238 : decode cL_isDone 238 = .ok (.aload 7, 2) := by decide +kernel
theorem dL_isDone_240 : decode cL_isDone 240 = .ok (.iconst 1, 1) := by decide +kernel
theorem dL_isDone_241 : decode cL_isDone 241 = .ok (.dup2, 1) := by decide +kernel
theorem dL_isDone_242 : decode cL_isDone 242 = .ok (.iaload, 1) := by decide +kernel
theorem dL_isDone_243 : decode cL_isDone 243 = .ok (.iconst 1, 1) := by decide +kernel
theorem dL_isDone_244 : decode cL_isDone 244 = .ok (.iadd, 1) := by decide +kernel
theorem dL_isDone_245 : decode cL_isDone 245 = .ok (.iastore, 1) := by decide +kernel
theorem dL_isDone_246 : decode cL_isDone 246 = .ok (.aload_n 0, 1) := by decide +kernel
theorem dL_isDone_247 : decode cL_isDone 247 = .ok (.iconst 0, 1) := by decide +kernel
theorem dL_isDone_248 : decode cL_isDone 248 = .ok (.iload 13, 2) := by decide +kernel
theorem dL_isDone_250 : decode cL_isDone 250 = .ok (.iload 14, 2) := by decide +kernel
theorem dL_isDone_252 : decode cL_isDone 252 = .ok (.iconst 0, 1) := by decide +kernel
theorem dL_isDone_253 : decode cL_isDone 253 = .ok (.iconst 0, 1) := by decide +kernel
theorem dL_isDone_254 : decode cL_isDone 254 = .ok (.invokestatic 96, 3) := by decide +kernel
theorem dL_isDone_257 : decode cL_isDone 257 = .ok (.iload 16, 2) := by decide +kernel
theorem dL_isDone_259 : decode cL_isDone 259 = .ok (.if_icmp .ne 33, 3) := by decide +kernel
theorem dL_isDone_262 : decode cL_isDone 262 = .ok (.iload 16, 2) := by decide +kernel
theorem dL_isDone_264 : decode cL_isDone 264 = .ok (.ifCond .lt 24, 3) := by decide +kernel
theorem dL_isDone_267 : decode cL_isDone 267 = .ok (.aload_n 0, 1) := by decide +kernel
theorem dL_isDone_268 : decode cL_isDone 268 = .ok (.iload 16, 2) := by decide +kernel
theorem dL_isDone_270 : decode cL_isDone 270 = .ok (.invokevirtual 57, 3) := by decide +kernel
theorem dL_isDone_273 : decode cL_isDone 273 = .ok (.iconst 1, 1) := by decide +kernel
theorem dL_isDone_274 : decode cL_isDone 274 = .ok (.if_icmp .ne 18, 3) := by decide +kernel
theorem dL_isDone_277 : decode cL_isDone 277 = .ok (.aload_n 0, 1) := by decide +kernel
theorem dL_isDone_278 : decode cL_isDone 278 = .ok (.iload 16, 2) := by decide +kernel
theorem dL_isDone_280 : decode cL_isDone 280 = .ok (.invokevirtual 76, 3) := by decide +kernel
theorem dL_isDone_283 : decode cL_isDone 283 = .ok (.bipush 30, 2) := by decide +kernel
theorem dL_isDone_285 : decode cL_isDone 285 = .ok (.if_icmp .ne 7, 3) := by decide +kernel
theorem dL_isDone_288 : decode cL_isDone 288 = .ok (.iconst 1, 1) := by decide +kernel
theorem dL_isDone_289 : decode cL_isDone 289 = .ok (.goto 4, 3) := by decide +kernel
theorem dL_isDone_292 : decode cL_isDone 292 = .ok (.iconst 0, 1) := by decide +kernel
theorem dL_isDone_293 : decode cL_isDone 293 = .ok (.ireturn, 1) := by decide +kernel
theorem dL_isDone_294 : decode cL_isDone 294 = .ok (.iload 8, 2) := by decide +kernel
theorem dL_isDone_296 : decode cL_isDone 296 = .ok (.bipush 9, 2) := by decide +kernel
theorem dL_isDone_298 : decode cL_isDone 298 = .ok (.if_icmp .ge 38, 3) := by decide +kernel
theorem dL_isDone_301 : decode cL_isDone 301 = .ok (.aload_n 0, 1) := by decide +kernel
theorem dL_isDone_302 : decode cL_isDone 302 = .ok (.aload_n 3, 1) := by decide +kernel
theorem dL_isDone_303 : decode cL_isDone 303 = .ok (.aload 5, 2) := by decide +kernel
theorem dL_isDone_305 : decode cL_isDone 305 = .ok (.aload 6, 2) := by decide +kernel
theorem dL_isDone_307 : decode cL_isDone 307 = .ok (.aload 7, 2) := by decide +kernel
theorem dL_isDone_309 : decode cL_isDone 309 = .ok (.iload 8, 2) := by decide +kernel
theorem dL_isDone_311 : decode cL_isDone 311 = .ok (.bipush 7, 2) := by decide +kernel
theorem dL_isDone_313 : decode cL_isDone 313 = .ok (.if_icmp .ge 7, 3) := by decide +kernel
theorem dL_isDone_316 : decode cL_isDone 316 = .ok (.iconst 0, 1) := by decide +kernel
theorem dL_isDone_317 : decode cL_isDone 317 = .ok (.goto 4, 3) := by decide +kernel
theorem dL_isDone_320 : decode cL_isDone 320 = .ok (.iconst 1, 1) := by decide +kernel
theorem dL_isDone_321 : decode cL_isDone 321 = .ok (.iload 12, 2) := by decide +kernel
theorem dL_isDone_323 : decode cL_isDone 323 = .ok (.iload 10, 2) := by decide +kernel
theorem dL_isDone_325 : decode cL_isDone 325 = .ok (.bipush 30, 2) := by decide +kernel
theorem dL_isDone_327 : decode cL_isDone 327 = .ok (.idiv, 1) := by decide +kernel
theorem dL_isDone_328 : decode cL_isDone 328 = .ok (.iconst 5, 1) := by decide +kernel
theorem dL_isDone_329 : decode cL_isDone 329 = .ok (.irem, 1) := by decide +kernel
theorem dL_isDone_330 : decode cL_isDone 330 = .ok (.iload 10, 2) := by decide +kernel
theorem dL_isDone_332 : decode cL_isDone 332 = .ok (.invokestatic 104, 3) := by decide +kernel
theorem dL_isDone_335 : decode cL_isDone 335 = .ok (.ireturn, 1) := by decide +kernel
theorem dL_isDone_336 : decode cL_isDone 336 = .ok (.iload 8, 2) := by decide +kernel
theorem dL_isDone_338 : decode cL_isDone 338 = .ok (.bipush 12, 2) := by decide +kernel
theorem dL_isDone_340 : decode cL_isDone 340 = .ok (.if_icmp .ge 19, 3) := by decide +kernel
theorem dL_isDone_343 : decode cL_isDone 343 = .ok (.aload_n 0, 1) := by decide +kernel
theorem dL_isDone_344 : decode cL_isDone 344 = .ok (.aload_n 3, 1) := by decide +kernel
theorem dL_isDone_345 : decode cL_isDone 345 = .ok (.aload 6, 2) := by decide +kernel
theorem dL_isDone_347 : decode cL_isDone 347 = .ok (.aload 7, 2) := by decide +kernel
theorem dL_isDone_349 : decode cL_isDone 349 = .ok (.iload 12, 2) := by decide +kernel
theorem dL_isDone_351 : decode cL_isDone 351 = .ok (.iload 10, 2) := by decide +kernel
theorem dL_isDone_353 : decode cL_isDone 353 = .ok (.iconst 4, 1) := by decide +kernel
theorem dL_isDone_354 : decode cL_isDone 354 = .ok (.irem, 1) := by decide +kernel
theorem dL_isDone_355 : decode cL_isDone 355 = .ok (.invokestatic 108, 3) := by decide +kernel
theorem dL_isDone_358 : decode cL_isDone 358 = .ok (.ireturn, 1) := by decide +kernel
theorem dL_isDone_359 : decode cL_isDone 359 = .ok (.iload 8, 2) := by decide +kernel
theorem dL_isDone_361 : decode cL_isDone 361 = .ok (.bipush 15, 2) := by decide +kernel
theorem dL_isDone_363 : decode cL_isDone 363 = .ok (.if_icmp .ge 112, 3) := by decide +kernel
theorem dL_isDone_366 : decode cL_isDone 366 = .ok (.iload 10, 2) := by decide +kernel
theorem dL_isDone_368 : decode cL_isDone 368 = .ok (.bipush 10, 2) := by decide +kernel
theorem dL_isDone_370 : decode cL_isDone 370 = .ok (.irem, 1) := by decide +kernel
theorem dL_isDone_371 : decode cL_isDone 371 = .ok (.ifCond .ne 7, 3) := by decide +kernel
theorem dL_isDone_374 : decode cL_isDone 374 = .ok (.iconst 3, 1) := by decide +kernel
theorem dL_isDone_375 : decode cL_isDone 375 = .ok (.goto 7, 3) := by decide +kernel
theorem dL_isDone_378 : decode cL_isDone 378 = .ok (.iload 10, 2) := by decide +kernel
theorem dL_isDone_380 : decode cL_isDone 380 = .ok (.iconst 3, 1) := by decide +kernel
theorem dL_isDone_381 : decode cL_isDone 381 = .ok (.irem, 1) := by decide +kernel
theorem dL_isDone_382 : decode cL_isDone 382 = .ok (.istore 13, 2) := by decide +kernel
theorem dL_isDone_384 : decode cL_isDone 384 = .ok (.iload 11, 2) := by decide +kernel
theorem dL_isDone_386 : decode cL_isDone 386 = .ok (.bipush 22, 2) := by decide +kernel
theorem dL_isDone_388 : decode cL_isDone 388 = .ok (.irem, 1) := by decide +kernel
theorem dL_isDone_389 : decode cL_isDone 389 = .ok (.istore 14, 2) := by decide +kernel
theorem dL_isDone_391 : decode cL_isDone 391 = .ok (.iload 13, 2) := by decide +kernel
theorem dL_isDone_393 : decode cL_isDone 393 = .ok (.iconst 3, 1) := by decide +kernel
theorem dL_isDone_394 : decode cL_isDone 394 = .ok (.if_icmp .ne 8, 3) := by decide +kernel
theorem dL_isDone_397 : decode cL_isDone 397 = .ok (.bipush (-30), 2) := by decide +kernel
theorem dL_isDone_399 : decode cL_isDone 399 = .ok (.goto 40, 3) := by decide +kernel
theorem dL_isDone_402 : decode cL_isDone 402 = .ok (.iload 14, 2) := by decide +kernel
theorem dL_isDone_404 : decode cL_isDone 404 = .ok (.bipush 20, 2) := by decide +kernel
theorem dL_isDone_406 : decode cL_isDone 406 = .ok (.if_icmp .le 8, 3) := by decide +kernel
theorem dL_isDone_409 : decode cL_isDone 409 = .ok (.bipush (-20), 2) := by decide +kernel
theorem dL_isDone_411 : decode cL_isDone 411 = .ok (.goto 28, 3) := by decide +kernel
theorem dL_isDone_414 : decode cL_isDone 414 = .ok (.aload_n 3, 1) := by decide +kernel
theorem dL_isDone_415 : decode cL_isDone 415 = .ok (.aload 4, 2) := by decide +kernel
theorem dL_isDone_417 : decode cL_isDone 417 = .ok (.aload 7, 2) := by decide +kernel
theorem dL_isDone_419 : decode cL_isDone 419 = .ok (.iload 13, 2) := by decide +kernel
theorem dL_isDone_421 : decode cL_isDone 421 = .ok (.invokestatic 92, 3) := by decide +kernel
theorem dL_isDone_424 : decode cL_isDone 424 = .ok (.iload 14, 2) := by decide +kernel
theorem dL_isDone_426 : decode cL_isDone 426 = .ok (.if_icmp .le 8, 3) := by decide +kernel
theorem dL_isDone_429 : decode cL_isDone 429 = .ok (.bipush (-10), 2) := by decide +kernel
theorem dL_isDone_431 : decode cL_isDone 431 = .ok (.goto 8, 3) := by decide +kernel
theorem dL_isDone_434 : decode cL_isDone 434 = .ok (.aload 5, 2) := by decide +kernel
theorem dL_isDone_436 : decode cL_isDone 436 = .ok (.iload 13, 2) := by decide +kernel
theorem dL_isDone_438 : decode cL_isDone 438 = .ok (.iaload, 1) := by decide +kernel
theorem dL_isDone_439 : decode cL_isDone 439 = .ok (.istore 15, 2) := by decide +kernel
theorem dL_isDone_441 : decode cL_isDone 441 = .ok (.iload 15, 2) := by decide +kernel
theorem dL_isDone_443 : decode cL_isDone 443 = .ok (.ifCond .lt 10, 3) := by decide +kernel
theorem dL_isDone_446 : decode cL_isDone 446 = .ok (.aload 5, 2) := by decide +kernel
theorem dL_isDone_448 : decode cL_isDone 448 = .ok (.iload 13, 2) := by decide +kernel
theorem dL_isDone_450 : decode cL_isDone 450 = .ok (.iload 14, 2) := by decide +kernel
theorem dL_isDone_452 : decode cL_isDone 452 = .ok (.iastore, 1) := by decide +kernel
theorem dL_isDone_453 : decode cL_isDone 453 = .ok (.aload_n 0, 1) := by decide +kernel
theorem dL_isDone_454 : decode cL_isDone 454 = .ok (.iconst 4, 1) := by decide +kernel
theorem dL_isDone_455 : decode cL_isDone 455 = .ok (.iload 13, 2) := by decide +kernel
theorem dL_isDone_457 : decode cL_isDone 457 = .ok (.iload 14, 2) := by decide +kernel
theorem dL_isDone_459 : decode cL_isDone 459 = .ok (.iconst 0, 1) := by decide +kernel
theorem dL_isDone_460 : decode cL_isDone 460 = .ok (.iconst 0, 1) := by decide +kernel
theorem dL_isDone_461 : decode cL_isDone 461 = .ok (.invokestatic 96, 3) := by decide +kernel
theorem dL_isDone_464 : decode cL_isDone 464 = .ok (.iload 15, 2) := by decide +kernel
theorem dL_isDone_466 : decode cL_isDone 466 = .ok (.if_icmp .ne 7, 3) := by decide +kernel
theorem dL_isDone_469 : decode cL_isDone 469 = .ok (.iconst 1, 1) := by decide +kernel
theorem dL_isDone_470 : decode cL_isDone 470 = .ok (.goto 4, 3) := by decide +kernel
theorem dL_isDone_473 : decode cL_isDone 473 = .ok (.iconst 0, 1) := by decide +kernel
theorem dL_isDone_474 : decode cL_isDone 474 = .ok (.ireturn, 1) := by decide +kernel
theorem dL_isDone_475 : decode cL_isDone 475 = .ok (.iload 8, 2) := by decide +kernel
theorem dL_isDone_477 : decode cL_isDone 477 = .ok (.bipush 19, 2) := by decide +kernel
theorem dL_isDone_479 : decode cL_isDone 479 = .ok (.if_icmp .ge 189, 3) := by decide +kernel
theorem dL_isDone_482 : decode cL_isDone 482 = .ok (.iload 9, 2) := by decide +kernel
theorem dL_isDone_484 : decode cL_isDone 484 = .ok (.iconst 5, 1) := by decide +kernel
theorem dL_isDone_485 : decode cL_isDone 485 = .ok (.irem, 1) := by decide +kernel
theorem dL_isDone_486 : decode cL_isDone 486 = .ok (.istore 13, 2) := by decide +kernel
theorem dL_isDone_488 : decode cL_isDone 488 = .ok (.iload 10, 2) := by decide +kernel
theorem dL_isDone_490 : decode cL_isDone 490 = .ok (.iconst 4, 1) := by decide +kernel
theorem dL_isDone_491 : decode cL_isDone 491 = .ok (.irem, 1) := by decide +kernel
theorem dL_isDone_492 : decode cL_isDone 492 = .ok (.istore 14, 2) := by decide +kernel
theorem dL_isDone_494 : decode cL_isDone 494 = .ok (.iload 11, 2) := by decide +kernel
theorem dL_isDone_496 : decode cL_isDone 496 = .ok (.bipush 30, 2) := by decide +kernel
theorem dL_isDone_498 : decode cL_isDone 498 = .ok (.irem, 1) := by decide +kernel
theorem dL_isDone_499 : decode cL_isDone 499 = .ok (.ifCond .ne 9, 3) := by decide +kernel
theorem dL_isDone_502 : decode cL_isDone 502 = .ok (.sipush 501, 3) := by decide +kernel
theorem dL_isDone_505 : decode cL_isDone 505 = .ok (.goto 10, 3) := by decide +kernel
theorem dL_isDone_508 : decode cL_isDone 508 = .ok (.iconst 1, 1) := by decide +kernel
theorem dL_isDone_509 : decode cL_isDone 509 = .ok (.iload 11, 2) := by decide +kernel
theorem dL_isDone_511 : decode cL_isDone 511 = .ok (.bipush 12, 2) := by decide +kernel
theorem dL_isDone_513 : decode cL_isDone 513 = .ok (.irem, 1) := by decide +kernel
theorem dL_isDone_514 : decode cL_isDone 514 = .ok (.iadd, 1) := by decide +kernel
theorem dL_isDone_515 : decode cL_isDone 515 = .ok (.istore 15, 2) := by decide +kernel
theorem dL_isDone_517 : decode cL_isDone 517 = .ok (.iload 10, 2) := by decide +kernel
theorem dL_isDone_519 : decode cL_isDone 519 = .ok (.iconst 4, 1) := by decide +kernel
theorem dL_isDone_520 : decode cL_isDone 520 = .ok (.idiv, 1) := by decide +kernel
theorem dL_isDone_521 : decode cL_isDone 521 = .ok (.sipush 130, 3) := by decide +kernel
theorem dL_isDone_524 : decode cL_isDone 524 = .ok (.irem, 1) := by decide +kernel
theorem dL_isDone_525 : decode cL_isDone 525 = .ok (.istore 16, 2) := by decide +kernel
theorem dL_isDone_527 : decode cL_isDone 527 = .ok (.iload 13, 2) := by decide +kernel
theorem dL_isDone_529 : decode cL_isDone 529 = .ok (.iconst 4, 1) := by decide +kernel
theorem dL_isDone_530 : decode cL_isDone 530 = .ok (.if_icmp .ge 13, 3) := by decide +kernel
theorem dL_isDone_533 : decode cL_isDone 533 = .ok (.iload 14, 2) := by decide +kernel
theorem dL_isDone_535 : decode cL_isDone 535 = .ok (.iconst 3, 1) := by decide +kernel
theorem dL_isDone_536 : decode cL_isDone 536 = .ok (.if_icmp .ge 7, 3) := by decide +kernel
theorem dL_isDone_539 : decode cL_isDone 539 = .ok (.iconst 1, 1) := by decide +kernel
theorem dL_isDone_540 : decode cL_isDone 540 = .ok (.goto 4, 3) := by decide +kernel
theorem dL_isDone_543 : decode cL_isDone 543 = .ok (.iconst 0, 1) := by decide +kernel
theorem dL_isDone_544 : decode cL_isDone 544 = .ok (.istore 17, 2) := by decide +kernel
theorem dL_isDone_546 : decode cL_isDone 546 = .ok (.iload 17, 2) := by decide +kernel
theorem dL_isDone_548 : decode cL_isDone 548 = .ok (.ifCond .ne 8, 3) := by decide +kernel
theorem dL_isDone_551 : decode cL_isDone 551 = .ok (.bipush (-30), 2) := by decide +kernel
theorem dL_isDone_553 : decode cL_isDone 553 = .ok (.goto 34, 3) := by decide +kernel
theorem dL_isDone_556 : decode cL_isDone 556 = .ok (.iload 15, 2) := by decide +kernel
theorem dL_isDone_558 : decode cL_isDone 558 = .ok (.sipush 500, 3) := by decide +kernel
theorem dL_isDone_561 : decode cL_isDone 561 = .ok (.if_icmp .le 8, 3) := by decide +kernel
theorem dL_isDone_564 : decode cL_isDone 564 = .ok (.bipush (-20), 2) := by decide +kernel
theorem dL_isDone_566 : decode cL_isDone 566 = .ok (.goto 21, 3) := by decide +kernel
theorem dL_isDone_569 : decode cL_isDone 569 = .ok (.aload 7, 2) := by decide +kernel
theorem dL_isDone_571 : decode cL_isDone 571 = .ok (.iconst 2, 1) := by decide +kernel
theorem dL_isDone_572 : decode cL_isDone 572 = .ok (.iaload, 1) := by decide +kernel
theorem dL_isDone_573 : decode cL_isDone 573 = .ok (.bipush 8, 2) := by decide +kernel
theorem dL_isDone_575 : decode cL_isDone 575 = .ok (.if_icmp .ne 8, 3) := by decide +kernel
theorem dL_isDone_578 : decode cL_isDone 578 = .ok (.bipush (-10), 2) := by decide +kernel
theorem dL_isDone_580 : decode cL_isDone 580 = .ok (.goto 7, 3) := by decide +kernel
theorem dL_isDone_583 : decode cL_isDone 583 = .ok (.aload 7, 2) := by decide +kernel
theorem dL_isDone_585 : decode cL_isDone 585 = .ok (.iconst 2, 1) := by decide +kernel
theorem dL_isDone_586 : decode cL_isDone 586 = .ok (.iaload, 1) := by decide +kernel
theorem dL_isDone_587 : decode cL_isDone 587 = .ok (.istore 18, 2) := by decide +kernel
theorem dL_isDone_589 : decode cL_isDone 589 = .ok (.iload 18, 2) := by decide +kernel
theorem dL_isDone_591 : decode cL_isDone 591 = .ok (.ifCond .lt 53, 3) := by decide +kernel
theorem dL_isDone_594 : decode cL_isDone 594 = .ok (.aload 4, 2) := by decide +kernel
theorem dL_isDone_596 : decode cL_isDone 596 = .ok (.iconst 4, 1) := by decide +kernel
theorem dL_isDone_597 : decode cL_isDone 597 = .ok (.iload 18, 2) := by decide +kernel
theorem dL_isDone_599 : decode cL_isDone 599 = .ok (.imul, 1) := by decide +kernel
theorem dL_isDone_600 : decode cL_isDone 600 = .ok (.iload 13, 2) := by decide +kernel
theorem dL_isDone_602 : decode cL_isDone 602 = .ok (.iastore, 1) := by decide +kernel
theorem dL_isDone_603 : decode cL_isDone 603 = .ok (.aload 4, 2) := by decide +kernel
theorem dL_isDone_605 : decode cL_isDone 605 = .ok (.iconst 4, 1) := by decide +kernel
theorem dL_isDone_606 : decode cL_isDone 606 = .ok (.iload 18, 2) := by decide +kernel
theorem dL_isDone_608 : decode cL_isDone 608 = .ok (.imul, 1) := by decide +kernel
theorem dL_isDone_609 : decode cL_isDone 609 = .ok (.iconst 1, 1) := by decide +kernel
theorem dL_isDone_610 : decode cL_isDone 610 = .ok (.iadd, 1) := by decide +kernel
