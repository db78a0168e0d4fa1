theorem gk_L_law_L_isLineSo_0 : GoodIn wsL_law [.code yL_isLineSo cL_isLineSo 12 (some .boolean)] := goodIn_r _ [370] (by decide +kernel) (by decide +kernel)
set_option maxRecDepth 20000 in
theorem gk_L_law_wsL_isLineSo_r1 : GoodIn wsL_law wsL_isLineSo_r1 := goodIn_r _ [323, 324, 325, 2, 326, 12, 327, 124, 125, 126, 121, 122, 123, 328, 329, 330, 11, 331, 30, 157, 28, 161, 162, 163] (by decide +kernel) (by decide +kernel)
set_option maxRecDepth 20000 in
theorem gk_L_law_wsL_isLineSo_r2 : GoodIn wsL_law wsL_isLineSo_r2 := goodIn_r _ [34, 164, 39, 165, 159, 160, 158, 332, 333, 334, 335, 336, 337, 338, 339, 215, 340, 171, 172, 46, 173, 51, 174, 175] (by decide +kernel) (by decide +kernel)
set_option maxRecDepth 20000 in
theorem gk_L_law_wsL_isLineSo_r3 : GoodIn wsL_law wsL_isLineSo_r3 := goodIn_r _ [176, 177, 53, 178, 179, 180, 181, 182, 183, 341, 342, 362, 363, 364, 365, 261, 309, 118, 119, 120, 262, 366, 367, 357] (by decide +kernel) (by decide +kernel)
set_option maxRecDepth 20000 in
theorem gk_L_law_wsL_isLineSo_r4 : GoodIn wsL_law wsL_isLineSo_r4 := goodIn_r _ [358, 359, 360, 361, 305, 306, 307, 308, 310, 298, 299, 300, 301, 302, 303, 304, 371, 372, 373, 374, 13, 78, 375, 134] (by decide +kernel) (by decide +kernel)
set_option maxRecDepth 20000 in
theorem gk_L_law_wsL_isLineSo_r5 : GoodIn wsL_law wsL_isLineSo_r5 := goodIn_r _ [135, 136, 137, 138, 139, 140, 31, 32, 141, 142, 143, 144, 145, 146, 147, 40, 42, 43, 47, 148, 149, 150, 151, 152] (by decide +kernel) (by decide +kernel)
set_option maxRecDepth 20000 in
theorem gk_L_law_wsL_isLineSo_r6 : GoodIn wsL_law wsL_isLineSo_r6 := goodIn_r _ [52, 245, 246, 247, 248, 249, 250, 251, 252, 184, 253, 254, 255, 256, 166, 167, 168, 169, 170, 195, 196, 197, 198, 199] (by decide +kernel) (by decide +kernel)
set_option maxRecDepth 20000 in
theorem gk_L_law_wsL_isLineSo_r7 : GoodIn wsL_law wsL_isLineSo_r7 := goodIn_r _ [200, 201, 202, 203, 204, 205, 206, 207, 208, 209, 210, 216, 217, 218, 219, 191, 192, 193, 194, 189, 185, 186, 187, 188] (by decide +kernel) (by decide +kernel)
set_option maxRecDepth 20000 in
theorem gk_L_law_wsL_isLineSo_r8 : GoodIn wsL_law wsL_isLineSo_r8 := goodIn_r _ [190, 211, 212, 213, 214, 220, 221, 222, 223, 224, 225, 226, 227, 228, 229, 230, 231, 232, 233, 234, 235, 106, 236, 237] (by decide +kernel) (by decide +kernel)
set_option maxRecDepth 20000 in
theorem gk_L_law_wsL_isLineSo_r9 : GoodIn wsL_law wsL_isLineSo_r9 := goodIn_r _ [238, 239, 240, 153, 154, 155, 156, 102, 103, 104, 105, 74, 75, 76, 77, 79, 80, 81, 18, 82, 22, 83, 84, 85] (by decide +kernel) (by decide +kernel)
set_option maxRecDepth 20000 in
theorem gk_L_law_wsL_isLineSo_r10 : GoodIn wsL_law wsL_isLineSo_r10 := goodIn_r _ [86, 87, 88, 89, 90, 91, 92, 93, 94, 95, 96, 97, 98, 99, 100, 101, 114, 115, 116, 117, 127, 128, 129, 17] (by decide +kernel) (by decide +kernel)
set_option maxRecDepth 20000 in
theorem gk_L_law_wsL_isLineSo_r11 : GoodIn wsL_law wsL_isLineSo_r11 := goodIn_r _ [130, 59, 131, 132, 133, 343, 344, 345, 346, 347, 348, 349, 350] (by decide +kernel) (by decide +kernel)
theorem ggL_law_L_isLineSo : GoodIn wsL_law wsL_isLineSo := goodIn_app gk_L_law_L_isLineSo_0 (goodIn_app (goodIn_app (goodIn_app (goodIn_app (goodIn_app (goodIn_app (goodIn_app gk_L_law_wsL_isLineSo_r1 (goodIn_app gk_L_law_wsL_isLineSo_r2 (goodIn_app gk_L_law_wsL_isLineSo_r3 (goodIn_app gk_L_law_wsL_isLineSo_r4 (goodIn_app gk_L_law_wsL_isLineSo_r5 (goodIn_app gk_L_law_wsL_isLineSo_r6 (goodIn_app gk_L_law_wsL_isLineSo_r7 (goodIn_app gk_L_law_wsL_isLineSo_r8 (goodIn_app gk_L_law_wsL_isLineSo_r9 (goodIn_app gk_L_law_wsL_isLineSo_r10 gk_L_law_wsL_isLineSo_r11)))))))))) (goodIn_sub inlX5 (by decide +kernel))) (goodIn_sub inlX3 (by decide +kernel))) (goodIn_sub inlX0 (by decide +kernel))) (goodIn_sub inlX1 (by decide +kernel))) (goodIn_sub inlX2 (by decide +kernel))) (goodIn_sub inlX4 (by decide +kernel)))
theorem gL_law_L_isLineSo : GoodIn wsL_law (va_wsS RL 86 yL_isLineSo wsL_isLineSo) := goodIn_app (goodIn_of _ (by decide +kernel)) ggL_law_L_isLineSo
