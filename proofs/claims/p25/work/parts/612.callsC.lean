set_option maxRecDepth 20000 in
theorem ggL_law_L_areAlike : GoodIn wsL_law wsL_areAlike := goodIn_r _ [292, 293, 294, 295, 2, 296, 12, 261, 297, 74, 75, 76, 77, 78, 79, 80, 81, 18, 82, 22, 83, 84, 85, 86, 11, 87, 30, 88, 89, 90, 34, 91, 39, 92, 93, 94, 95, 96, 97, 98, 99, 42, 100, 101, 102, 103, 104, 105, 106, 298, 299, 300, 301, 302, 303, 304, 118, 119, 120, 121, 122, 123, 305, 306, 307, 308, 309, 310, 311, 312, 313, 314, 315, 316, 317, 229, 230, 46, 231, 51, 318, 319, 320, 321, 52, 322, 278, 279, 280, 53, 323, 324, 325, 326, 327, 124, 125, 126, 328, 329, 330, 331, 157, 28, 161, 162, 163, 164, 165, 159, 160, 158, 332, 333, 334, 335, 336, 337, 338, 339, 215, 340, 171, 172, 173, 174, 175, 176, 177, 178, 179, 180, 181, 182, 183, 341, 342, 376, 377, 378, 379, 380, 381, 382, 383, 384, 385, 386, 387, 388, 389, 390, 402, 403, 404, 405, 406, 391, 392, 393, 394, 395, 396, 397, 398, 399, 400, 401, 407, 408, 409] (by decide +kernel) (by decide +kernel)
set_option maxRecDepth 20000 in
theorem gL_law_L_areAlike : GoodIn wsL_law (va_wsS RL 78 yL_areAlike wsL_areAlike) := goodIn_app (goodIn_of _ (by decide +kernel)) ggL_law_L_areAlike
set_option maxRecDepth 20000 in
theorem ggL_law_X5_undo : GoodIn wsL_law wsX5_undo := goodIn_r _ [346, 18, 82, 12, 347, 348, 349, 17, 350, 132, 59, 131, 133, 134, 135, 11, 136, 28, 137, 138, 139, 140, 30, 31, 32, 141, 142, 143, 144, 145, 34, 146, 39, 147, 40, 42, 43, 47, 148, 149, 150, 46, 151, 51, 152, 52, 53, 376, 377, 378, 379, 380, 381, 382, 383, 384, 391, 392, 393, 385, 386, 387, 388, 389, 390, 402, 403, 404, 405, 406, 407, 408, 409] (by decide +kernel) (by decide +kernel)
set_option maxRecDepth 20000 in
theorem gL_law_X5_undo : GoodIn wsL_law (wsV RL 66 RX5 yX5_undo wsX5_undo) := goodIn_app (goodIn_of _ (by decide +kernel)) ggL_law_X5_undo
set_option maxRecDepth 20000 in
theorem ggL_law_L_low : GoodIn wsL_law wsL_low := goodIn_r _ [112, 113] (by decide +kernel) (by decide +kernel)
set_option maxRecDepth 20000 in
theorem gL_law_L_low : GoodIn wsL_law (va_wsS RL 8 yL_low wsL_low) := goodIn_app (goodIn_of _ (by decide +kernel)) ggL_law_L_low
