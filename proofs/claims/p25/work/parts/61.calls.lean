set_option maxRecDepth 20000 in
theorem ggL_act_L_low : GoodIn wsL_act wsL_low := goodIn_r _ [4, 5] (by decide +kernel) (by decide +kernel)
set_option maxRecDepth 20000 in
theorem gL_act_L_low : GoodIn wsL_act (va_wsS RL 8 yL_low wsL_low) := goodIn_app (goodIn_of _ (by decide +kernel)) ggL_act_L_low
set_option maxRecDepth 20000 in
theorem ggL_act_X5_read : GoodIn wsL_act wsX5_read := goodIn_r _ [10, 11, 12, 13, 14, 9, 15, 16, 17, 18, 19, 20, 21, 22, 23, 24, 25, 26, 27, 28, 29, 30, 31, 32, 33, 34, 35, 36, 37, 38, 39, 40, 41, 42, 43, 44, 45, 46, 47, 48, 49, 50, 51, 52, 53, 54, 55, 56, 57, 58, 59, 60, 61, 62, 63, 64, 65, 66, 67, 68, 69, 70, 71, 72, 73, 74, 75, 76, 77, 78, 79, 80, 81, 82, 83, 84, 85, 86, 87, 88, 89, 90, 91, 92, 93, 94, 95, 96, 97, 98, 99, 100, 101, 102, 103, 104, 105, 106, 107, 108, 109, 110, 111, 112, 113, 114, 115, 116, 117, 118, 119, 120, 121, 122, 123, 124, 125, 126, 127, 128, 129, 130, 131, 132, 133, 134, 135, 136, 137, 138, 139, 140, 141, 142, 143, 144, 145, 146, 147, 148, 149, 150, 151, 152, 153, 210, 211, 212, 213, 214, 215, 216, 217, 218, 219, 220, 221, 222, 223, 224, 225, 226, 227, 228, 229, 230, 231, 232, 233, 234, 235] (by decide +kernel) (by decide +kernel)
set_option maxRecDepth 20000 in
theorem gL_act_X5_read : GoodIn wsL_act (wsV RL 14 RX5 yX5_read wsX5_read) := goodIn_app (goodIn_of _ (by decide +kernel)) ggL_act_X5_read
set_option maxRecDepth 20000 in
theorem ggL_act_X5_write : GoodIn wsL_act wsX5_write := goodIn_r _ [157, 11, 12, 13, 14, 9, 15, 16, 17, 18, 19, 20, 21, 22, 23, 24, 25, 26, 27, 28, 29, 30, 31, 32, 33, 34, 35, 36, 37, 38, 39, 40, 41, 42, 43, 44, 45, 46, 47, 48, 49, 50, 51, 52, 53, 54, 55, 56, 57, 58, 59, 60, 61, 62, 63, 64, 158, 159, 160, 161, 162, 163, 164, 165, 97, 75, 76, 77, 78, 72, 73, 166, 167, 168, 169, 79, 80, 81, 82, 83, 84, 85, 86, 87, 88, 89, 90, 91, 92, 93, 94, 95, 96, 74, 108, 109, 110, 111, 112, 113, 114, 115, 116, 117, 118, 119, 120, 121, 122, 123, 129, 130, 131, 132, 71, 104, 105, 106, 107, 102, 98, 99, 100, 101, 103, 70, 124, 125, 126, 127, 128, 133, 134, 135, 136, 137, 138, 139, 140, 141, 142, 143, 144, 145, 146, 147, 148, 69, 149, 150, 151, 152, 153, 210, 211, 212, 213, 214, 215, 216, 217, 218, 219, 220, 221, 222, 223, 224, 225, 226, 227, 228, 229, 230, 231, 232, 233, 234, 235] (by decide +kernel) (by decide +kernel)
set_option maxRecDepth 20000 in
theorem gL_act_X5_write : GoodIn wsL_act (wsV RL 19 RX5 yX5_write wsX5_write) := goodIn_app (goodIn_of _ (by decide +kernel)) ggL_act_X5_write
set_option maxRecDepth 20000 in
theorem ggL_act_X5_drop : GoodIn wsL_act wsX5_drop := goodIn_r _ [173, 12, 174, 11, 13, 14, 9, 15, 16, 17, 18, 19, 20, 21, 175, 75, 76, 48, 77, 50, 78, 72, 73, 22, 23, 24, 25, 26, 27, 28, 29, 30, 31, 32, 33, 34, 35, 36, 37, 38, 39, 40, 41, 42, 43, 44, 45, 46, 47, 49, 51, 52, 53, 54, 55, 56, 57, 58, 59, 60, 61, 62, 63, 64, 176, 177, 178, 179, 74, 162, 163, 164, 165, 97, 71, 104, 105, 106, 107, 102, 98, 99, 100, 101, 103, 70, 108, 109, 110, 111, 112, 113, 114, 115, 91, 92, 93, 116, 117, 118, 119, 94, 95, 96, 120, 121, 122, 123, 210, 211, 212, 213, 214, 215, 216, 217, 218, 222, 223, 224, 225, 226, 227, 228, 229, 230, 231, 232, 219, 220, 221, 233, 234, 235] (by decide +kernel) (by decide +kernel)
set_option maxRecDepth 20000 in
theorem gL_act_X5_drop : GoodIn wsL_act (wsV RL 23 RX5 yX5_drop wsX5_drop) := goodIn_app (goodIn_of _ (by decide +kernel)) ggL_act_X5_drop
set_option maxRecDepth 20000 in
theorem ggL_act_X5_forget : GoodIn wsL_act wsX5_forget := goodIn_r _ [183, 12, 174, 11, 13, 14, 9, 15, 16, 17, 18, 184, 185, 186, 48, 187, 55, 188, 189, 190, 191, 50, 192, 142, 143, 59, 144, 61, 193, 194, 195, 196, 64, 197, 198, 22, 23, 24, 25, 26, 27, 28, 29, 30, 31, 32, 33, 34, 35, 36, 37, 38, 39, 40, 41, 42, 43, 44, 45, 46, 47, 49, 51, 52, 53, 54, 56, 57, 58, 60, 62, 63, 199, 200, 201, 202, 203, 145, 146, 147, 148, 102, 128, 69, 98, 99, 100, 101, 103, 70, 149, 121, 122, 123, 150, 151, 152, 153, 210, 211, 212, 213, 214, 215, 216, 217, 218, 222, 223, 224, 225, 226, 227, 228, 229, 230, 231, 232, 233, 234, 235, 219, 220, 221] (by decide +kernel) (by decide +kernel)
set_option maxRecDepth 20000 in
theorem gL_act_X5_forget : GoodIn wsL_act (wsV RL 26 RX5 yX5_forget wsX5_forget) := goodIn_app (goodIn_of _ (by decide +kernel)) ggL_act_X5_forget
set_option maxRecDepth 20000 in
theorem ggL_act_X5_set : GoodIn wsL_act wsX5_set := goodIn_r _ [207, 12, 208, 209, 11, 16, 17, 9, 18, 22, 23, 24, 25, 26, 27, 28, 29, 30, 31, 32, 33, 34, 35, 36, 37, 38, 39, 40, 41, 42, 43, 44, 45, 46, 47, 48, 49, 50, 51, 52, 53, 54, 55, 56, 57, 58, 59, 60, 61, 62, 63, 64, 210, 211, 212, 213, 214, 215, 216, 217, 218, 222, 223, 224, 225, 226, 227, 219, 220, 221, 228, 229, 230, 231, 232, 233, 234, 235] (by decide +kernel) (by decide +kernel)
set_option maxRecDepth 20000 in
theorem gL_act_X5_set : GoodIn wsL_act (wsV RL 30 RX5 yX5_set wsX5_set) := goodIn_app (goodIn_of _ (by decide +kernel)) ggL_act_X5_set
set_option maxRecDepth 20000 in
theorem ggL_areAlike_X5_worst : GoodIn wsL_areAlike wsX5_worst := goodIn_r _ [5, 6, 7, 8, 137, 138, 139, 140, 141, 142, 143, 144, 145, 146, 147, 148, 149, 150, 151, 152, 153, 154, 155, 156] (by decide +kernel) (by decide +kernel)
set_option maxRecDepth 20000 in
theorem gL_areAlike_X5_worst : GoodIn wsL_areAlike (wsV RL 33 RX5 yX5_worst wsX5_worst) := goodIn_app (goodIn_of _ (by decide +kernel)) ggL_areAlike_X5_worst
set_option maxRecDepth 20000 in
theorem ggL_areAlike_X5_count : GoodIn wsL_areAlike wsX5_count := goodIn_r _ [12, 6, 13, 14, 15, 16, 17, 18, 19, 20, 21, 22, 23, 24, 25, 26, 27, 28, 29, 30, 31, 32, 33, 34, 35, 36, 37, 38, 39, 40, 41, 42, 4, 43, 44, 45, 46, 47, 48, 137, 138, 139, 140, 141, 142, 143, 144, 145, 146, 147, 148, 149, 150, 151, 157, 158, 159, 160, 161, 162, 163, 164, 165, 166, 167, 152, 153, 154, 155, 156] (by decide +kernel) (by decide +kernel)
set_option maxRecDepth 20000 in
theorem gL_areAlike_X5_count : GoodIn wsL_areAlike (wsV RL 37 RX5 yX5_count wsX5_count) := goodIn_app (goodIn_of _ (by decide +kernel)) ggL_areAlike_X5_count
set_option maxRecDepth 20000 in
theorem ggL_areAlike_X5_held : GoodIn wsL_areAlike wsX5_held := goodIn_r _ [52, 6, 7, 53, 54, 55, 56, 57, 4, 58, 59, 60, 61, 137, 138, 139, 140, 141, 142, 143, 144, 145, 146, 147, 148, 149, 150, 151, 152, 153, 154, 155, 156] (by decide +kernel) (by decide +kernel)
set_option maxRecDepth 20000 in
theorem gL_areAlike_X5_held : GoodIn wsL_areAlike (wsV RL 40 RX5 yX5_held wsX5_held) := goodIn_app (goodIn_of _ (by decide +kernel)) ggL_areAlike_X5_held
set_option maxRecDepth 20000 in
theorem ggL_areAlike_X5_counter : GoodIn wsL_areAlike wsX5_counter := goodIn_r _ [65, 6, 7, 66, 67, 56, 57, 4, 58, 59, 60, 61, 137, 138, 139, 140, 141, 142, 143, 144, 145, 146, 147, 148, 149, 150, 151, 152, 153, 154, 155, 156, 168, 169, 170] (by decide +kernel) (by decide +kernel)
set_option maxRecDepth 20000 in
theorem gL_areAlike_X5_counter : GoodIn wsL_areAlike (wsV RL 43 RX5 yX5_counter wsX5_counter) := goodIn_app (goodIn_of _ (by decide +kernel)) ggL_areAlike_X5_counter
set_option maxRecDepth 20000 in
theorem ggL_areAlike_X5_core : GoodIn wsL_areAlike wsX5_core := goodIn_r _ [71, 6, 7, 66, 8, 56, 57, 4, 58, 59, 60, 61, 72, 28, 29, 30, 31, 32, 73, 38, 39, 40, 41, 42, 43, 74, 75, 76, 77, 78, 79, 80, 81, 82, 83, 84, 85, 86, 87, 88, 89, 137, 138, 139, 140, 141, 142, 143, 144, 145, 146, 147, 148, 149, 150, 151, 152, 153, 154, 155, 156, 168, 169, 170] (by decide +kernel) (by decide +kernel)
set_option maxRecDepth 20000 in
theorem gL_areAlike_X5_core : GoodIn wsL_areAlike (wsV RL 46 RX5 yX5_core wsX5_core) := goodIn_app (goodIn_of _ (by decide +kernel)) ggL_areAlike_X5_core
set_option maxRecDepth 20000 in
theorem ggL_areAlike_X5_line : GoodIn wsL_areAlike wsX5_line := goodIn_r _ [93, 6, 94, 95, 96, 4, 97, 59, 60, 61, 98, 99, 100, 24, 101, 26, 102, 103, 104, 105, 106, 30, 107, 32, 108, 109, 110, 111, 112, 113, 114, 115, 116, 117, 118, 119, 120, 121, 122, 123, 77, 124, 79, 125, 126, 127, 128, 89, 129, 130, 131, 132, 133, 134, 135, 136, 137, 138, 139, 140, 141, 142, 143, 144, 145, 146, 147, 148, 149, 150, 151, 152, 153, 154, 155, 156, 168, 169, 170] (by decide +kernel) (by decide +kernel)
set_option maxRecDepth 20000 in
theorem gL_areAlike_X5_line : GoodIn wsL_areAlike (wsV RL 49 RX5 yX5_line wsX5_line) := goodIn_app (goodIn_of _ (by decide +kernel)) ggL_areAlike_X5_line
set_option maxRecDepth 20000 in
theorem ggL_isFilterSo_X5_held : GoodIn wsL_isFilterSo wsX5_held := goodIn_r _ [5, 6, 7, 8, 9, 10, 11, 12, 4, 13, 14, 15, 16, 118, 119, 120, 121, 122, 123, 124, 125, 126, 127, 128, 129, 130, 131, 132, 133, 134, 135, 136, 137] (by decide +kernel) (by decide +kernel)
set_option maxRecDepth 20000 in
theorem gL_isFilterSo_X5_held : GoodIn wsL_isFilterSo (wsV RL 40 RX5 yX5_held wsX5_held) := goodIn_app (goodIn_of _ (by decide +kernel)) ggL_isFilterSo_X5_held
set_option maxRecDepth 20000 in
theorem ggL_isFilterSo_X5_counter : GoodIn wsL_isFilterSo wsX5_counter := goodIn_r _ [20, 6, 7, 21, 22, 11, 12, 4, 13, 14, 15, 16, 118, 119, 120, 121, 122, 123, 124, 125, 126, 127, 128, 129, 130, 131, 132, 133, 134, 135, 136, 137, 138, 139, 140] (by decide +kernel) (by decide +kernel)
set_option maxRecDepth 20000 in
theorem gL_isFilterSo_X5_counter : GoodIn wsL_isFilterSo (wsV RL 43 RX5 yX5_counter wsX5_counter) := goodIn_app (goodIn_of _ (by decide +kernel)) ggL_isFilterSo_X5_counter
set_option maxRecDepth 20000 in
theorem ggL_isFilterSo_X5_bit : GoodIn wsL_isFilterSo wsX5_bit := goodIn_r _ [26, 6, 7, 21, 27, 11, 12, 4, 13, 14, 15, 16, 118, 119, 120, 121, 122, 123, 124, 125, 126, 127, 128, 129, 130, 131, 132, 133, 134, 135, 136, 137, 138, 139, 140] (by decide +kernel) (by decide +kernel)
set_option maxRecDepth 20000 in
theorem gL_isFilterSo_X5_bit : GoodIn wsL_isFilterSo (wsV RL 52 RX5 yX5_bit wsX5_bit) := goodIn_app (goodIn_of _ (by decide +kernel)) ggL_isFilterSo_X5_bit
set_option maxRecDepth 20000 in
theorem ggL_isFilterSo_X5_reason : GoodIn wsL_isFilterSo wsX5_reason := goodIn_r _ [31, 6, 7, 21, 11, 12, 4, 13, 14, 15, 16, 32, 33, 34, 35, 36, 37, 38, 39, 40, 41, 42, 43, 44, 45, 46, 47, 48, 49, 50, 51, 52, 53, 54, 55, 56, 57, 58, 59, 60, 61, 118, 119, 120, 121, 122, 123, 124, 125, 126, 127, 128, 129, 130, 131, 132, 133, 134, 135, 136, 137, 138, 139, 140] (by decide +kernel) (by decide +kernel)
set_option maxRecDepth 20000 in
theorem gL_isFilterSo_X5_reason : GoodIn wsL_isFilterSo (wsV RL 55 RX5 yX5_reason wsX5_reason) := goodIn_app (goodIn_of _ (by decide +kernel)) ggL_isFilterSo_X5_reason
set_option maxRecDepth 20000 in
theorem ggL_isFilterSo_X5_line : GoodIn wsL_isFilterSo wsX5_line := goodIn_r _ [65, 6, 66, 32, 33, 4, 34, 14, 15, 16, 67, 68, 69, 70, 71, 72, 73, 74, 75, 36, 37, 38, 39, 40, 41, 42, 43, 76, 77, 78, 79, 80, 81, 82, 83, 84, 85, 86, 45, 46, 47, 48, 49, 50, 51, 52, 53, 54, 55, 56, 57, 58, 59, 60, 87, 88, 118, 119, 120, 121, 122, 123, 124, 125, 126, 127, 128, 129, 130, 131, 132, 133, 134, 135, 136, 137, 138, 139, 140] (by decide +kernel) (by decide +kernel)
set_option maxRecDepth 20000 in
theorem gL_isFilterSo_X5_line : GoodIn wsL_isFilterSo (wsV RL 49 RX5 yX5_line wsX5_line) := goodIn_app (goodIn_of _ (by decide +kernel)) ggL_isFilterSo_X5_line
set_option maxRecDepth 20000 in
theorem ggL_isFilterSo_X5_core : GoodIn wsL_isFilterSo wsX5_core := goodIn_r _ [92, 6, 7, 21, 93, 11, 12, 4, 13, 14, 15, 16, 94, 95, 96, 38, 97, 40, 98, 99, 100, 101, 102, 103, 104, 105, 106, 107, 47, 108, 49, 109, 110, 111, 112, 113, 114, 115, 116, 117, 54, 118, 119, 120, 121, 122, 123, 124, 125, 126, 127, 128, 129, 130, 131, 132, 133, 134, 135, 136, 137, 138, 139, 140] (by decide +kernel) (by decide +kernel)
set_option maxRecDepth 20000 in
theorem gL_isFilterSo_X5_core : GoodIn wsL_isFilterSo (wsV RL 46 RX5 yX5_core wsX5_core) := goodIn_app (goodIn_of _ (by decide +kernel)) ggL_isFilterSo_X5_core
set_option maxRecDepth 20000 in
theorem ggL_areSums_L_isFilterSo : GoodIn wsL_areSums wsL_isFilterSo := goodIn_r _ [4, 5, 6, 7, 8, 9, 10, 11, 12, 13, 14, 15, 16, 17, 18, 19, 20, 21, 22, 23, 24, 25, 26, 27, 28, 29, 30, 31, 32, 33, 34, 35, 36, 37, 38, 39, 40, 41, 42, 43, 44, 45, 46, 47, 48, 49, 50, 51, 52, 53, 54, 55, 56, 57, 58, 59, 60, 61, 62, 63, 64, 65, 66, 67, 68, 69, 70, 71, 72, 73, 74, 75, 76, 77, 78, 79, 80, 81, 82, 83, 84, 85, 86, 87, 88, 89, 90, 91, 92, 93, 94, 95, 96, 97, 98, 99, 100, 101, 102, 103, 104, 105, 106, 107, 108, 109, 110, 111, 112, 113, 114, 115, 116, 117, 118, 119, 120, 121, 153, 154, 155, 156, 157, 158, 159, 160, 161, 162, 163, 164, 165, 166, 167, 168, 169, 170, 171, 172, 173, 174, 175] (by decide +kernel) (by decide +kernel)
set_option maxRecDepth 20000 in
theorem gL_areSums_L_isFilterSo : GoodIn wsL_areSums (va_wsS RL 58 yL_isFilterSo wsL_isFilterSo) := goodIn_app (goodIn_of _ (by decide +kernel)) ggL_areSums_L_isFilterSo
set_option maxRecDepth 20000 in
theorem ggL_areSums_X5_core : GoodIn wsL_areSums wsX5_core := goodIn_r _ [96, 10, 11, 25, 97, 15, 16, 8, 17, 18, 19, 20, 98, 99, 100, 42, 101, 44, 102, 103, 104, 105, 106, 107, 108, 109, 110, 111, 51, 112, 53, 113, 114, 115, 116, 117, 118, 119, 120, 121, 58, 153, 154, 155, 156, 157, 158, 159, 160, 161, 162, 163, 164, 165, 166, 167, 168, 169, 170, 171, 172, 173, 174, 175] (by decide +kernel) (by decide +kernel)
set_option maxRecDepth 20000 in
theorem gL_areSums_X5_core : GoodIn wsL_areSums (wsV RL 46 RX5 yX5_core wsX5_core) := goodIn_app (goodIn_of _ (by decide +kernel)) ggL_areSums_X5_core
set_option maxRecDepth 20000 in
theorem ggL_areSums_X5_count : GoodIn wsL_areSums wsX5_count := goodIn_r _ [125, 10, 126, 127, 128, 129, 130, 131, 132, 133, 134, 135, 136, 74, 137, 76, 138, 99, 100, 42, 101, 44, 139, 140, 141, 142, 143, 103, 104, 105, 106, 107, 8, 108, 144, 145, 146, 147, 148, 153, 154, 155, 156, 157, 158, 159, 160, 161, 162, 163, 164, 165, 166, 167, 176, 177, 178, 179, 180, 181, 182, 183, 184, 185, 186, 168, 169, 170, 171, 172] (by decide +kernel) (by decide +kernel)
set_option maxRecDepth 20000 in
theorem gL_areSums_X5_count : GoodIn wsL_areSums (wsV RL 37 RX5 yX5_count wsX5_count) := goodIn_app (goodIn_of _ (by decide +kernel)) ggL_areSums_X5_count
set_option maxRecDepth 20000 in
theorem ggL_areSums_X5_worst : GoodIn wsL_areSums wsX5_worst := goodIn_r _ [152, 10, 11, 97, 153, 154, 155, 156, 157, 158, 159, 160, 161, 162, 163, 164, 165, 166, 167, 168, 169, 170, 171, 172] (by decide +kernel) (by decide +kernel)
set_option maxRecDepth 20000 in
theorem gL_areSums_X5_worst : GoodIn wsL_areSums (wsV RL 33 RX5 yX5_worst wsX5_worst) := goodIn_app (goodIn_of _ (by decide +kernel)) ggL_areSums_X5_worst
set_option maxRecDepth 20000 in
theorem ggL_isLineSo_X5_line : GoodIn wsL_isLineSo wsX5_line := goodIn_r _ [5, 6, 7, 8, 9, 4, 10, 11, 12, 13, 14, 15, 16, 17, 18, 19, 20, 21, 22, 23, 24, 25, 26, 27, 28, 29, 30, 31, 32, 33, 34, 35, 36, 37, 38, 39, 40, 41, 42, 43, 44, 45, 46, 47, 48, 49, 50, 51, 52, 53, 54, 55, 56, 57, 58, 59, 254, 255, 256, 257, 258, 259, 260, 261, 262, 263, 264, 265, 266, 267, 268, 269, 270, 271, 272, 273, 274, 275, 276] (by decide +kernel) (by decide +kernel)
set_option maxRecDepth 20000 in
theorem gL_isLineSo_X5_line : GoodIn wsL_isLineSo (wsV RL 49 RX5 yX5_line wsX5_line) := goodIn_app (goodIn_of _ (by decide +kernel)) ggL_isLineSo_X5_line
set_option maxRecDepth 20000 in
theorem ggL_isLineSo_X5_reason : GoodIn wsL_isLineSo wsX5_reason := goodIn_r _ [63, 6, 64, 65, 66, 67, 4, 68, 11, 12, 13, 8, 9, 10, 69, 23, 24, 25, 26, 27, 28, 29, 30, 70, 42, 43, 44, 45, 46, 47, 48, 49, 50, 51, 52, 53, 54, 55, 56, 57, 71, 254, 255, 256, 257, 258, 259, 260, 261, 262, 263, 264, 265, 266, 267, 268, 269, 270, 271, 272, 273, 274, 275, 276] (by decide +kernel) (by decide +kernel)
set_option maxRecDepth 20000 in
theorem gL_isLineSo_X5_reason : GoodIn wsL_isLineSo (wsV RL 55 RX5 yX5_reason wsX5_reason) := goodIn_app (goodIn_of _ (by decide +kernel)) ggL_isLineSo_X5_reason
set_option maxRecDepth 20000 in
theorem ggL_isLineSo_X5_bit : GoodIn wsL_isLineSo wsX5_bit := goodIn_r _ [75, 6, 64, 65, 76, 66, 67, 4, 68, 11, 12, 13, 254, 255, 256, 257, 258, 259, 260, 261, 262, 263, 264, 265, 266, 267, 268, 269, 270, 271, 272, 273, 274, 275, 276] (by decide +kernel) (by decide +kernel)
set_option maxRecDepth 20000 in
theorem gL_isLineSo_X5_bit : GoodIn wsL_isLineSo (wsV RL 52 RX5 yX5_bit wsX5_bit) := goodIn_app (goodIn_of _ (by decide +kernel)) ggL_isLineSo_X5_bit
set_option maxRecDepth 20000 in
theorem ggL_isLineSo_X5_counter : GoodIn wsL_isLineSo wsX5_counter := goodIn_r _ [80, 6, 64, 65, 81, 66, 67, 4, 68, 11, 12, 13, 254, 255, 256, 257, 258, 259, 260, 261, 262, 263, 264, 265, 266, 267, 268, 269, 270, 271, 272, 273, 274, 275, 276] (by decide +kernel) (by decide +kernel)
set_option maxRecDepth 20000 in
theorem gL_isLineSo_X5_counter : GoodIn wsL_isLineSo (wsV RL 43 RX5 yX5_counter wsX5_counter) := goodIn_app (goodIn_of _ (by decide +kernel)) ggL_isLineSo_X5_counter
set_option maxRecDepth 20000 in
theorem ggL_isLineSo_X5_held : GoodIn wsL_isLineSo wsX5_held := goodIn_r _ [85, 6, 64, 86, 87, 88, 66, 67, 4, 68, 11, 12, 13, 254, 255, 256, 257, 258, 259, 260, 261, 262, 263, 264, 265, 266, 267, 268, 269, 270, 271, 272, 273] (by decide +kernel) (by decide +kernel)
set_option maxRecDepth 20000 in
theorem gL_isLineSo_X5_held : GoodIn wsL_isLineSo (wsV RL 40 RX5 yX5_held wsX5_held) := goodIn_app (goodIn_of _ (by decide +kernel)) ggL_isLineSo_X5_held
set_option maxRecDepth 20000 in
theorem ggL_isLineSo_X5_cost : GoodIn wsL_isLineSo wsX5_cost := goodIn_r _ [92, 93, 6, 94, 66, 67, 4, 68, 11, 12, 13, 8, 9, 10, 95, 96, 97, 17, 98, 21, 99, 100, 101, 102, 19, 103, 104, 105, 106, 107, 108, 109, 25, 110, 27, 111, 112, 113, 114, 115, 116, 117, 118, 44, 119, 46, 120, 121, 51, 122, 123, 124, 125, 126, 127, 128, 129, 130, 23, 24, 26, 28, 29, 30, 131, 132, 133, 134, 135, 136, 137, 138, 139, 42, 43, 45, 47, 48, 49, 50, 52, 53, 54, 55, 56, 57, 22, 140, 141, 142, 143, 144, 145, 146, 147, 148, 149, 150, 151, 152, 153, 154, 155, 156, 157, 158, 159, 31, 160, 161, 162, 163, 164, 165, 166, 167, 168, 169, 20, 170, 171, 172, 173, 40, 174, 175, 176, 177, 178, 179, 180, 181, 182, 183, 184, 185, 186, 187, 188, 189, 190, 191, 192, 193, 194, 195, 196, 197, 198, 199, 200, 201, 202, 203, 254, 255, 256, 257, 258, 259, 260, 261, 262, 263, 264, 265, 266, 267, 268, 269, 270, 271, 272, 273, 274, 275, 276] (by decide +kernel) (by decide +kernel)
set_option maxRecDepth 20000 in
theorem gL_isLineSo_X5_cost : GoodIn wsL_isLineSo (wsV RL 62 RX5 yX5_cost wsX5_cost) := goodIn_app (goodIn_of _ (by decide +kernel)) ggL_isLineSo_X5_cost
set_option maxRecDepth 20000 in
theorem ggL_isLineSo_X5_count : GoodIn wsL_isLineSo wsX5_count := goodIn_r _ [207, 6, 94, 208, 209, 210, 211, 212, 213, 214, 215, 216, 217, 17, 218, 19, 219, 220, 221, 25, 222, 27, 223, 224, 225, 226, 227, 228, 229, 230, 113, 231, 4, 232, 200, 201, 202, 203, 190, 254, 255, 256, 257, 258, 259, 260, 261, 262, 263, 264, 265, 266, 267, 268, 277, 278, 279, 280, 281, 282, 283, 284, 285, 286, 287, 269, 270, 271, 272, 273] (by decide +kernel) (by decide +kernel)
set_option maxRecDepth 20000 in
theorem gL_isLineSo_X5_count : GoodIn wsL_isLineSo (wsV RL 37 RX5 yX5_count wsX5_count) := goodIn_app (goodIn_of _ (by decide +kernel)) ggL_isLineSo_X5_count
set_option maxRecDepth 20000 in
theorem ggL_isLineSo_X5_read : GoodIn wsL_isLineSo wsX5_read := goodIn_r _ [236, 211, 6, 66, 67, 4, 68, 11, 12, 13, 8, 9, 10, 237, 238, 239, 240, 241, 242, 243, 244, 245, 96, 97, 17, 98, 21, 99, 100, 101, 102, 19, 103, 104, 105, 106, 107, 108, 109, 25, 110, 27, 111, 112, 113, 114, 115, 116, 117, 118, 44, 119, 46, 120, 121, 51, 196, 197, 198, 199, 190, 20, 31, 29, 30, 22, 23, 24, 26, 28, 135, 136, 137, 138, 139, 42, 43, 45, 47, 48, 49, 50, 52, 53, 54, 55, 56, 57, 130, 165, 166, 167, 168, 164, 169, 160, 161, 162, 163, 140, 141, 142, 143, 144, 145, 146, 147, 148, 149, 150, 151, 152, 153, 154, 155, 170, 171, 172, 173, 40, 156, 157, 158, 159, 174, 175, 176, 177, 178, 179, 180, 181, 182, 183, 184, 185, 186, 187, 188, 189, 191, 192, 193, 194, 195, 254, 255, 256, 257, 258, 259, 260, 261, 262, 277, 278, 279, 263, 264, 265, 266, 267, 268, 269, 270, 271, 272, 273, 274, 275, 276] (by decide +kernel) (by decide +kernel)
set_option maxRecDepth 20000 in
theorem gL_isLineSo_X5_read : GoodIn wsL_isLineSo (wsV RL 14 RX5 yX5_read wsX5_read) := goodIn_app (goodIn_of _ (by decide +kernel)) ggL_isLineSo_X5_read
set_option maxRecDepth 20000 in
theorem ggL_isLineSo_X5_undo : GoodIn wsL_isLineSo wsX5_undo := goodIn_r _ [249, 211, 212, 6, 250, 251, 252, 240, 253, 244, 242, 243, 245, 96, 97, 17, 98, 21, 99, 100, 101, 102, 19, 103, 104, 105, 106, 107, 108, 109, 25, 110, 27, 111, 112, 113, 114, 115, 116, 117, 118, 44, 119, 46, 120, 121, 51, 254, 255, 256, 257, 258, 259, 260, 261, 262, 277, 278, 279, 263, 264, 265, 266, 267, 268, 269, 270, 271, 272, 273, 274, 275, 276] (by decide +kernel) (by decide +kernel)
set_option maxRecDepth 20000 in
theorem gL_isLineSo_X5_undo : GoodIn wsL_isLineSo (wsV RL 66 RX5 yX5_undo wsX5_undo) := goodIn_app (goodIn_of _ (by decide +kernel)) ggL_isLineSo_X5_undo
