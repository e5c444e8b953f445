/-! the words of isDone among the law's, in pieces -/
set_option maxRecDepth 20000 in
theorem gq_head : Cond.code yL_isDone cL_isDone 19 (some .boolean) ∈ wsL_law := List.mem_of_getElem? (i := 151) rfl
set_option maxRecDepth 20000 in
theorem gq_1 : GoodIn wsL_law wsL_isDone_r1 := goodIn_r _ [152, 153, 23, 154, 155, 59, 60, 61, 2, 62, 63, 33, 34, 35, 36, 37, 38, 11, 156, 157, 158, 28, 159, 160] (by decide +kernel) (by decide +kernel)
set_option maxRecDepth 20000 in
theorem gq_2 : GoodIn wsL_law wsL_isDone_r2 := goodIn_r _ [161, 162, 163, 164, 165, 166, 167, 10, 168, 42, 109, 169, 170, 171, 172, 173, 174, 175, 176, 177, 8, 9, 122, 178] (by decide +kernel) (by decide +kernel)
set_option maxRecDepth 20000 in
theorem gq_3 : GoodIn wsL_law wsL_isDone_r3 := goodIn_r _ [123, 179, 180, 134, 114, 46, 47, 181, 182, 183, 184, 3, 185, 186, 187, 188, 189, 190, 191, 192, 193, 194, 195, 196] (by decide +kernel) (by decide +kernel)
set_option maxRecDepth 20000 in
theorem gq_4 : GoodIn wsL_law wsL_isDone_r4 := goodIn_r _ [197, 198, 199, 200, 201, 58, 202, 203, 204, 205, 206, 207, 208, 209, 210, 48, 49, 50, 51, 39, 40, 41, 43, 44] (by decide +kernel) (by decide +kernel)
set_option maxRecDepth 20000 in
theorem gq_5 : GoodIn wsL_law wsL_isDone_r5 := goodIn_r _ [45, 52, 53, 54, 55, 56, 57, 211, 212, 213, 214, 215, 216, 217, 218, 219, 127, 220, 221, 222, 223, 130, 224, 225] (by decide +kernel) (by decide +kernel)
set_option maxRecDepth 20000 in
theorem gq_6 : GoodIn wsL_law wsL_isDone_r6 := goodIn_r _ [226, 227, 228, 229, 230, 231, 232, 233, 234, 235, 236, 237, 238, 239, 240, 241, 242, 243, 244, 245, 246, 247, 248, 249] (by decide +kernel) (by decide +kernel)
set_option maxRecDepth 20000 in
theorem gq_7 : GoodIn wsL_law wsL_isDone_r7 := goodIn_r _ [250, 251, 252, 253, 79, 254, 80, 81, 82, 83, 15, 255, 256, 257, 258, 259, 13, 12, 260, 261, 262, 263, 264, 265] (by decide +kernel) (by decide +kernel)
set_option maxRecDepth 20000 in
theorem gq_8 : GoodIn wsL_law wsL_isDone_r8 := goodIn_r _ [266, 267, 268, 269, 270, 271, 272, 273, 274, 88, 275, 276, 95, 96, 97, 98, 277, 278, 279, 280, 281, 282, 283, 284] (by decide +kernel) (by decide +kernel)
set_option maxRecDepth 20000 in
theorem gq_9 : GoodIn wsL_law wsL_isDone_r9 := goodIn_r _ [285, 286, 287, 288, 289, 290, 291, 292, 293, 294, 295, 296, 297, 298, 89, 299, 300, 301, 302, 303, 103, 104, 110, 111] (by decide +kernel) (by decide +kernel)
set_option maxRecDepth 20000 in
theorem gq_10 : GoodIn wsL_law wsL_isDone_r10 := goodIn_r _ [112, 113, 115, 116, 117, 118, 119, 120, 121, 124, 125, 126, 128, 129, 131, 132, 133, 135, 136, 137, 304, 305, 306, 307] (by decide +kernel) (by decide +kernel)
set_option maxRecDepth 20000 in
theorem gq_11 : GoodIn wsL_law wsL_isDone_r11 := goodIn_r _ [308, 309, 310, 311, 312, 313, 314, 315, 316, 317, 318, 319, 320, 321, 322, 323, 324, 325, 326, 327, 328, 329, 330, 331] (by decide +kernel) (by decide +kernel)
set_option maxRecDepth 20000 in
theorem gq_12 : GoodIn wsL_law wsL_isDone_r12 := goodIn_r _ [332, 333, 334, 335, 336, 337, 338, 339, 340, 341, 342, 343, 344, 345, 346, 347, 348, 349, 64, 65, 66, 67, 68, 105] (by decide +kernel) (by decide +kernel)
set_option maxRecDepth 20000 in
theorem gq_13 : GoodIn wsL_law wsL_isDone_r13 := goodIn_r _ [106, 107, 108, 350, 351, 352, 143, 144, 145, 353, 354, 355, 146, 147, 148, 356, 357, 358, 359, 360, 361, 99, 100, 101] (by decide +kernel) (by decide +kernel)
set_option maxRecDepth 20000 in
theorem gq_14 : GoodIn wsL_law wsL_isDone_r14 := goodIn_r _ [102, 362, 363, 364, 138, 139, 140, 141, 142] (by decide +kernel) (by decide +kernel)
