theorem inlX0 : ∀ w ∈ wsX00, w ∈ wsL_law := fun _ h => List.mem_append_left _ (List.mem_append_left _ (List.mem_append_right _ h))
theorem inlX1 : ∀ w ∈ wsX10, w ∈ wsL_law := fun _ h => List.mem_append_left _ (List.mem_append_right _ h)
theorem inlX2 : ∀ w ∈ wsX20, w ∈ wsL_law := fun _ h => List.mem_append_left _ (List.mem_append_left _ (List.mem_append_left _ (List.mem_append_left _ (List.mem_append_right _ h))))
theorem inlX3 : ∀ w ∈ wsX30, w ∈ wsL_law := fun _ h => List.mem_append_left _ (List.mem_append_left _ (List.mem_append_left _ (List.mem_append_left _ (List.mem_append_left _ (List.mem_append_right _ h)))))
theorem inlX4 : ∀ w ∈ wsX40, w ∈ wsL_law := fun _ h => List.mem_append_left _ (List.mem_append_left _ (List.mem_append_left _ (List.mem_append_right _ h)))
theorem inlX5 : ∀ w ∈ wsX50, w ∈ wsL_law := fun _ h => List.mem_append_left _ (List.mem_append_left _ (List.mem_append_left _ (List.mem_append_left _ (List.mem_append_left _ (List.mem_append_left _ (List.mem_append_right _ h))))))
theorem gk_L_law_L_areSums_0 : GoodIn wsL_law [.code yL_areSums cL_areSums 12 (some .boolean)] := goodIn_r _ [353] (by decide +kernel) (by decide +kernel)
set_option maxRecDepth 20000 in
theorem gk_L_law_wsL_areSums_r1 : GoodIn wsL_law wsL_areSums_r1 := goodIn_r _ [354, 355, 72, 356, 298, 299, 300, 2, 301, 12, 261, 302, 303, 304, 118, 119, 120, 121, 122, 123, 305, 306, 307, 308] (by decide +kernel) (by decide +kernel)
set_option maxRecDepth 20000 in
theorem gk_L_law_wsL_areSums_r2 : GoodIn wsL_law wsL_areSums_r2 := goodIn_r _ [309, 310, 357, 358, 359, 360, 361, 362, 363, 364, 365, 124, 125, 126, 262, 162, 163, 34, 164, 39, 165, 159, 160, 366] (by decide +kernel) (by decide +kernel)
set_option maxRecDepth 20000 in
theorem gk_L_law_wsL_areSums_r3 : GoodIn wsL_law wsL_areSums_r3 := goodIn_r _ [171, 172, 46, 173, 51, 174, 175, 176, 177, 53, 178, 179, 180, 181, 182, 183, 367, 323, 324, 325, 326, 327, 328, 329] (by decide +kernel) (by decide +kernel)
set_option maxRecDepth 20000 in
theorem gk_L_law_wsL_areSums_r4 : GoodIn wsL_law wsL_areSums_r4 := goodIn_r _ [330, 11, 331, 30, 157, 28, 161, 158, 332, 333, 334, 335, 336, 337, 338, 339, 215, 340, 341, 342, 311, 312, 313, 314] (by decide +kernel) (by decide +kernel)
set_option maxRecDepth 20000 in
theorem gk_L_law_wsL_areSums_r5 : GoodIn wsL_law wsL_areSums_r5 := goodIn_r _ [297, 315, 89, 90, 91, 316, 97, 98, 99, 42, 100, 101, 317, 229, 230, 231, 318, 319, 320, 321, 52, 322, 278, 279] (by decide +kernel) (by decide +kernel)
set_option maxRecDepth 20000 in
theorem gk_L_law_wsL_areSums_r6 : GoodIn wsL_law wsL_areSums_r6 := goodIn_r _ [280, 74, 75, 76, 77, 78, 79, 80, 81, 18, 82, 22, 83, 84, 85, 86, 87, 88, 92, 93, 94, 95, 96, 102] (by decide +kernel) (by decide +kernel)
set_option maxRecDepth 20000 in
theorem gk_L_law_wsL_areSums_r7 : GoodIn wsL_law wsL_areSums_r7 := goodIn_r _ [103, 104, 105, 106, 293, 294, 295, 296] (by decide +kernel) (by decide +kernel)
theorem ggL_law_L_areSums : GoodIn wsL_law wsL_areSums := goodIn_app gk_L_law_L_areSums_0 (goodIn_app (goodIn_app (goodIn_app (goodIn_app (goodIn_app (goodIn_app (goodIn_app gk_L_law_wsL_areSums_r1 (goodIn_app gk_L_law_wsL_areSums_r2 (goodIn_app gk_L_law_wsL_areSums_r3 (goodIn_app gk_L_law_wsL_areSums_r4 (goodIn_app gk_L_law_wsL_areSums_r5 (goodIn_app gk_L_law_wsL_areSums_r6 gk_L_law_wsL_areSums_r7)))))) (goodIn_sub inlX5 (by decide +kernel))) (goodIn_sub inlX3 (by decide +kernel))) (goodIn_sub inlX0 (by decide +kernel))) (goodIn_sub inlX1 (by decide +kernel))) (goodIn_sub inlX2 (by decide +kernel))) (goodIn_sub inlX4 (by decide +kernel)))
theorem gL_law_L_areSums : GoodIn wsL_law (va_wsS RL 82 yL_areSums wsL_areSums) := goodIn_app (goodIn_of _ (by decide +kernel)) ggL_law_L_areSums
