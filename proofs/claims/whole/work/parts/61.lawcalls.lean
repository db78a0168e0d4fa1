theorem inJ10 : ∀ w ∈ wsJ100, w ∈ lw_tbl := by decide +kernel
set_option maxRecDepth 20000 in
theorem ggL_law_X5_init : GoodIn wsL_law wsX5_init := goodIn_r _ [8, 9, 10, 11, 12, 13, 14, 15, 16, 17, 18, 19, 20, 21, 22, 23, 24, 25, 26, 27, 28, 29, 30, 31, 32, 33, 34, 35, 36, 37, 38, 39, 40, 41, 42, 43, 44, 45, 46, 47, 48, 49, 50, 51, 52, 53, 54, 55, 56, 57, 58, 59, 60, 61, 62, 63, 64, 65, 66, 67, 68, 69, 70, 71, 72, 731, 732, 733, 734, 735, 736, 704, 705, 706, 707, 708, 709, 710, 711, 712, 737, 738, 739, 740, 741, 742, 743, 744, 745, 746, 747, 748, 749, 750, 751, 752, 753, 754, 755] (by decide +kernel) (by decide +kernel)
set_option maxRecDepth 20000 in
theorem gL_law_X5_init : GoodIn wsL_law (wsX5_init) := ggL_law_X5_init
set_option maxRecDepth 20000 in
theorem ggL_law_X6_init : GoodIn wsL_law wsX6_init := goodIn_r _ [75, 76, 10, 11, 30, 77, 78, 79, 80, 81, 82, 713, 714, 715, 716, 717, 718, 719, 720, 721, 722, 723, 724, 725, 726, 727, 728, 729, 730] (by decide +kernel) (by decide +kernel)
set_option maxRecDepth 20000 in
theorem gL_law_X6_init : GoodIn wsL_law (wsX6_init) := ggL_law_X6_init
set_option maxRecDepth 20000 in
theorem ggL_law_X5_read : GoodIn wsL_law wsX5_read := goodIn_r _ [86, 21, 15, 87, 88, 2, 89, 90, 91, 92, 93, 94, 95, 96, 97, 98, 20, 99, 62, 100, 101, 102, 103, 104, 14, 105, 31, 106, 107, 108, 109, 33, 34, 35, 110, 111, 112, 113, 114, 37, 115, 42, 116, 43, 45, 46, 50, 117, 118, 119, 49, 120, 54, 121, 55, 56, 122, 123, 124, 125, 126, 127, 128, 129, 130, 131, 132, 133, 134, 135, 136, 137, 138, 139, 140, 141, 142, 143, 144, 145, 146, 147, 148, 149, 150, 151, 152, 153, 154, 155, 156, 157, 158, 159, 160, 161, 162, 163, 164, 165, 166, 167, 168, 169, 170, 171, 172, 173, 174, 175, 176, 177, 178, 179, 180, 181, 182, 183, 184, 185, 186, 187, 188, 189, 190, 191, 192, 193, 194, 195, 196, 197, 198, 199, 200, 201, 202, 203, 204, 205, 206, 207, 208, 209, 210, 704, 705, 706, 707, 708, 709, 710, 711, 712, 737, 738, 739, 731, 732, 733, 734, 735, 736, 748, 749, 750, 751, 752, 753, 754, 755] (by decide +kernel) (by decide +kernel)
set_option maxRecDepth 20000 in
theorem gL_law_X5_read : GoodIn wsL_law (wsV RL 13 RX5 yX5_read wsX5_read) := goodIn_app (goodIn_of _ (by decide +kernel)) ggL_law_X5_read
set_option maxRecDepth 20000 in
theorem ggL_law_X6_read : GoodIn wsL_law wsX6_read := goodIn_r _ [214, 215, 216, 5, 217, 218, 219, 220, 221, 222, 223, 224, 225, 226, 227, 228, 79, 77, 229, 230, 231, 232, 233, 234, 235, 236, 237, 238, 239, 240, 241, 242, 243, 244, 245, 246, 247, 248, 249, 250, 251, 252, 253, 254, 255, 256, 257, 258, 259, 260, 261, 262, 263, 264, 265, 266, 267, 268, 269, 270, 271, 272, 273, 274, 275, 276, 277, 278, 279, 280, 281, 282, 283, 284, 285, 286, 287, 288, 289, 290, 291, 292, 293, 294, 295, 296, 297, 713, 714, 715, 716, 717, 718, 719, 720, 721, 722, 723, 724, 725, 726, 727, 728, 729, 730] (by decide +kernel) (by decide +kernel)
set_option maxRecDepth 20000 in
theorem gL_law_X6_read : GoodIn wsL_law (wsV RL 17 RX6 yX6_read wsX6_read) := goodIn_app (goodIn_of _ (by decide +kernel)) ggL_law_X6_read
set_option maxRecDepth 20000 in
theorem ggL_law_X5_write : GoodIn wsL_law wsX5_write := goodIn_r _ [301, 21, 15, 87, 88, 2, 89, 90, 91, 92, 93, 94, 95, 96, 97, 98, 20, 99, 62, 100, 101, 102, 103, 104, 14, 105, 31, 106, 107, 108, 109, 33, 34, 35, 110, 111, 112, 113, 114, 37, 115, 42, 116, 43, 45, 46, 50, 117, 118, 119, 49, 120, 54, 121, 55, 56, 302, 303, 304, 305, 306, 307, 308, 309, 154, 132, 133, 134, 135, 129, 130, 310, 311, 312, 313, 136, 137, 138, 139, 140, 141, 142, 143, 144, 145, 146, 147, 148, 149, 150, 151, 152, 153, 131, 165, 166, 167, 168, 169, 170, 171, 172, 173, 174, 175, 176, 177, 178, 179, 180, 186, 187, 188, 189, 128, 161, 162, 163, 164, 159, 155, 156, 157, 158, 160, 127, 181, 182, 183, 184, 185, 190, 191, 192, 193, 194, 195, 196, 197, 198, 199, 200, 201, 202, 203, 204, 205, 126, 206, 207, 208, 209, 210, 704, 705, 706, 707, 708, 709, 710, 711, 712, 737, 738, 739, 731, 732, 733, 734, 735, 736, 748, 749, 750, 751, 752, 753, 754, 755] (by decide +kernel) (by decide +kernel)
set_option maxRecDepth 20000 in
theorem gL_law_X5_write : GoodIn wsL_law (wsV RL 18 RX5 yX5_write wsX5_write) := goodIn_app (goodIn_of _ (by decide +kernel)) ggL_law_X5_write
set_option maxRecDepth 20000 in
theorem ggL_law_X6_write : GoodIn wsL_law wsX6_write := goodIn_r _ [317, 215, 216, 5, 217, 218, 219, 220, 221, 222, 223, 224, 225, 226, 227, 228, 79, 77, 318, 319, 320, 321, 237, 238, 239, 233, 234, 235, 236, 243, 244, 245, 246, 247, 248, 249, 250, 251, 252, 253, 254, 255, 256, 257, 258, 259, 260, 261, 262, 263, 264, 265, 240, 241, 242, 266, 267, 268, 269, 270, 271, 272, 273, 274, 275, 276, 277, 278, 279, 280, 281, 282, 283, 284, 285, 286, 287, 288, 289, 290, 291, 292, 293, 294, 295, 296, 297, 713, 714, 715, 716, 717, 718, 719, 720, 721, 722, 723, 724, 725, 726, 727, 728, 729, 730] (by decide +kernel) (by decide +kernel)
set_option maxRecDepth 20000 in
theorem gL_law_X6_write : GoodIn wsL_law (wsV RL 22 RX6 yX6_write wsX6_write) := goodIn_app (goodIn_of _ (by decide +kernel)) ggL_law_X6_write
set_option maxRecDepth 20000 in
theorem ggL_law_X5_drop : GoodIn wsL_law wsX5_drop := goodIn_r _ [325, 15, 326, 21, 87, 88, 2, 89, 90, 91, 92, 93, 94, 95, 327, 132, 133, 37, 134, 42, 135, 129, 130, 96, 97, 98, 20, 99, 62, 100, 101, 102, 103, 104, 14, 105, 31, 106, 107, 108, 109, 33, 34, 35, 110, 111, 112, 113, 114, 115, 116, 43, 45, 46, 50, 117, 118, 119, 49, 120, 54, 121, 55, 56, 328, 329, 330, 331, 131, 306, 307, 308, 309, 154, 128, 161, 162, 163, 164, 159, 155, 156, 157, 158, 160, 127, 165, 166, 167, 168, 169, 170, 171, 172, 148, 149, 150, 173, 174, 175, 176, 151, 152, 153, 177, 178, 179, 180, 704, 705, 706, 707, 708, 709, 710, 711, 712, 731, 732, 733, 734, 735, 736, 748, 749, 750, 751, 752, 737, 738, 739, 753, 754, 755] (by decide +kernel) (by decide +kernel)
set_option maxRecDepth 20000 in
theorem gL_law_X5_drop : GoodIn wsL_law (wsV RL 23 RX5 yX5_drop wsX5_drop) := goodIn_app (goodIn_of _ (by decide +kernel)) ggL_law_X5_drop
set_option maxRecDepth 20000 in
theorem ggL_law_X6_drop : GoodIn wsL_law wsX6_drop := goodIn_r _ [335, 215, 216, 5, 217, 218, 219, 220, 221, 222, 223, 233, 234, 235, 236, 77, 237, 238, 239, 224, 225, 226, 227, 228, 79, 336, 337, 338, 339, 274, 275, 276, 277, 266, 267, 268, 269, 270, 271, 272, 273, 259, 260, 261, 262, 263, 264, 265, 713, 714, 715, 716, 717, 718, 719, 720, 721, 722, 723, 724, 725, 726, 727, 728, 729, 730] (by decide +kernel) (by decide +kernel)
set_option maxRecDepth 20000 in
theorem gL_law_X6_drop : GoodIn wsL_law (wsV RL 26 RX6 yX6_drop wsX6_drop) := goodIn_app (goodIn_of _ (by decide +kernel)) ggL_law_X6_drop
set_option maxRecDepth 20000 in
theorem ggL_law_X5_forget : GoodIn wsL_law wsX5_forget := goodIn_r _ [343, 15, 326, 21, 87, 88, 2, 89, 90, 91, 92, 344, 345, 346, 37, 347, 50, 348, 349, 350, 351, 42, 352, 199, 200, 49, 201, 54, 353, 354, 355, 356, 56, 357, 358, 96, 97, 98, 20, 99, 62, 100, 101, 102, 103, 104, 14, 105, 31, 106, 107, 108, 109, 33, 34, 35, 110, 111, 112, 113, 114, 115, 116, 43, 45, 46, 117, 118, 119, 120, 121, 55, 359, 360, 361, 362, 363, 202, 203, 204, 205, 159, 185, 126, 155, 156, 157, 158, 160, 127, 206, 178, 179, 180, 207, 208, 209, 210, 704, 705, 706, 707, 708, 709, 710, 711, 712, 731, 732, 733, 734, 735, 736, 748, 749, 750, 751, 752, 753, 754, 755, 737, 738, 739] (by decide +kernel) (by decide +kernel)
set_option maxRecDepth 20000 in
theorem gL_law_X5_forget : GoodIn wsL_law (wsV RL 27 RX5 yX5_forget wsX5_forget) := goodIn_app (goodIn_of _ (by decide +kernel)) ggL_law_X5_forget
set_option maxRecDepth 20000 in
theorem ggL_law_X6_forget : GoodIn wsL_law wsX6_forget := goodIn_r _ [367, 215, 216, 5, 217, 218, 219, 220, 368, 369, 370, 371, 372, 373, 374, 375, 77, 286, 287, 288, 289, 376, 377, 378, 379, 224, 225, 226, 227, 228, 79, 290, 291, 292, 293, 274, 275, 276, 277, 266, 267, 268, 269, 270, 271, 272, 273, 259, 260, 261, 262, 263, 264, 265, 294, 295, 296, 297, 240, 241, 242, 713, 714, 715, 716, 717, 718, 719, 720, 721, 722, 723, 724, 725, 726, 727, 728, 729, 730] (by decide +kernel) (by decide +kernel)
set_option maxRecDepth 20000 in
theorem gL_law_X6_forget : GoodIn wsL_law (wsV RL 31 RX6 yX6_forget wsX6_forget) := goodIn_app (goodIn_of _ (by decide +kernel)) ggL_law_X6_forget
set_option maxRecDepth 20000 in
theorem ggL_law_X5_set : GoodIn wsL_law wsX5_set := goodIn_r _ [383, 15, 384, 385, 21, 90, 91, 2, 92, 96, 97, 98, 20, 99, 62, 100, 101, 102, 103, 104, 14, 105, 31, 106, 107, 108, 109, 33, 34, 35, 110, 111, 112, 113, 114, 37, 115, 42, 116, 43, 45, 46, 50, 117, 118, 119, 49, 120, 54, 121, 55, 56, 704, 705, 706, 707, 708, 709, 710, 711, 712, 731, 732, 733, 734, 735, 736, 737, 738, 739, 748, 749, 750, 751, 752, 753, 754, 755] (by decide +kernel) (by decide +kernel)
set_option maxRecDepth 20000 in
theorem gL_law_X5_set : GoodIn wsL_law (wsV RL 32 RX5 yX5_set wsX5_set) := goodIn_app (goodIn_of _ (by decide +kernel)) ggL_law_X5_set
set_option maxRecDepth 20000 in
theorem ggL_law_X6_set : GoodIn wsL_law wsX6_set := goodIn_r _ [389, 77, 218, 219, 5, 220, 224, 225, 226, 227, 228, 79, 713, 714, 715, 716, 717, 718, 719, 720, 721, 722, 723, 724, 725, 726, 727, 728, 729, 730] (by decide +kernel) (by decide +kernel)
set_option maxRecDepth 20000 in
theorem gL_law_X6_set : GoodIn wsL_law (wsV RL 35 RX6 yX6_set wsX6_set) := goodIn_app (goodIn_of _ (by decide +kernel)) ggL_law_X6_set
set_option maxRecDepth 20000 in
theorem ggL_law_X5_type : GoodIn wsL_law wsX5_type := goodIn_r _ [393, 25, 394, 395, 396, 397, 24, 398, 399, 68, 704, 705, 706, 707, 708, 709, 710, 711, 712, 740, 741, 742, 743, 744, 745, 746, 747] (by decide +kernel) (by decide +kernel)
set_option maxRecDepth 20000 in
theorem gL_law_X5_type : GoodIn wsL_law (wsV RL 36 RX5 yX5_type wsX5_type) := goodIn_app (goodIn_of _ (by decide +kernel)) ggL_law_X5_type
set_option maxRecDepth 20000 in
theorem ggL_law_X6_type : GoodIn wsL_law wsX6_type := goodIn_r _ [403, 404, 81, 713, 714, 715, 716, 717, 718, 719, 720, 721, 722, 723, 724, 725, 726, 727, 728, 729, 730] (by decide +kernel) (by decide +kernel)
set_option maxRecDepth 20000 in
theorem gL_law_X6_type : GoodIn wsL_law (wsV RL 40 RX6 yX6_type wsX6_type) := goodIn_app (goodIn_of _ (by decide +kernel)) ggL_law_X6_type
set_option maxRecDepth 20000 in
theorem ggL_law_X5_clearText : GoodIn wsL_law wsX5_clearText := goodIn_r _ [408, 25, 394, 704, 705, 706, 707, 708, 709, 710, 711, 712, 740, 741, 742, 743, 744, 745, 746, 747] (by decide +kernel) (by decide +kernel)
set_option maxRecDepth 20000 in
theorem gL_law_X5_clearText : GoodIn wsL_law (wsV RL 41 RX5 yX5_clearText wsX5_clearText) := goodIn_app (goodIn_of _ (by decide +kernel)) ggL_law_X5_clearText
set_option maxRecDepth 20000 in
theorem ggL_law_X6_clearText : GoodIn wsL_law wsX6_clearText := goodIn_r _ [412, 404, 713, 714, 715, 716, 717, 718, 719, 720, 721, 722, 723, 724, 725, 726, 727, 728, 729, 730] (by decide +kernel) (by decide +kernel)
set_option maxRecDepth 20000 in
theorem gL_law_X6_clearText : GoodIn wsL_law (wsV RL 45 RX6 yX6_clearText wsX6_clearText) := goodIn_app (goodIn_of _ (by decide +kernel)) ggL_law_X6_clearText
set_option maxRecDepth 20000 in
theorem ggL_law_X5_perform : GoodIn wsL_law wsX5_perform := goodIn_r _ [416, 25, 16, 15, 417, 21, 418, 419, 420, 24, 421, 422, 423, 399, 424, 425, 426, 427, 68, 69, 70, 428, 429, 430, 431, 432, 433, 434, 435, 436, 437, 438, 439, 71, 72, 440, 441, 442, 443, 444, 103, 104, 14, 105, 31, 106, 107, 108, 109, 33, 34, 35, 110, 111, 112, 113, 114, 37, 115, 42, 116, 43, 45, 46, 50, 117, 118, 119, 49, 120, 54, 121, 55, 56, 445, 446, 447, 448, 449, 123, 124, 125, 126, 127, 128, 129, 130, 131, 132, 133, 134, 135, 136, 137, 138, 139, 140, 141, 142, 143, 144, 145, 146, 147, 148, 149, 150, 151, 152, 153, 154, 155, 156, 157, 158, 159, 160, 161, 162, 163, 164, 165, 166, 167, 168, 169, 170, 171, 172, 173, 174, 175, 176, 177, 178, 179, 180, 181, 182, 183, 184, 185, 186, 187, 188, 189, 190, 191, 192, 193, 194, 195, 196, 197, 198, 199, 200, 201, 202, 203, 204, 205, 206, 207, 208, 209, 210, 450, 303, 304, 305, 306, 307, 308, 309, 310, 311, 312, 313, 451, 329, 330, 331, 452, 360, 361, 362, 363, 345, 346, 347, 348, 349, 350, 351, 352, 353, 354, 355, 356, 357, 2, 358, 453, 454, 455, 456, 457, 458, 459, 460, 461, 462, 463, 96, 97, 98, 20, 99, 62, 100, 101, 102, 704, 705, 706, 707, 708, 709, 710, 711, 712, 740, 741, 742, 743, 744, 745, 746, 747, 731, 732, 733, 734, 735, 736, 748, 749, 750, 751, 752, 753, 754, 755, 737, 738, 739] (by decide +kernel) (by decide +kernel)
set_option maxRecDepth 20000 in
theorem gL_law_X5_perform : GoodIn wsL_law (wsV RL 46 RX5 yX5_perform wsX5_perform) := goodIn_app (goodIn_of _ (by decide +kernel)) ggL_law_X5_perform
set_option maxRecDepth 20000 in
theorem ggL_law_X6_perform : GoodIn wsL_law wsX6_perform := goodIn_r _ [467, 468, 469, 77, 78, 82, 470, 471, 472, 473, 5, 474, 475, 476, 404, 477, 478, 479, 480, 81, 481, 482, 483, 484, 485, 486, 487, 488, 218, 219, 220, 489, 490, 491, 492, 493, 494, 495, 496, 497, 498, 499, 500, 233, 234, 235, 236, 237, 238, 239, 229, 230, 231, 232, 240, 241, 242, 243, 244, 245, 246, 247, 248, 249, 250, 251, 252, 253, 254, 255, 256, 257, 258, 259, 260, 261, 262, 263, 264, 265, 266, 267, 268, 269, 270, 271, 272, 273, 274, 275, 276, 277, 278, 279, 280, 281, 282, 283, 284, 285, 286, 287, 288, 289, 290, 291, 292, 293, 294, 295, 296, 297, 318, 319, 320, 321, 336, 337, 338, 339, 368, 369, 370, 371, 372, 373, 374, 375, 376, 377, 378, 379, 501, 502, 503, 504, 224, 225, 226, 227, 228, 79, 505, 506, 507, 508, 713, 714, 715, 716, 717, 718, 719, 720, 721, 722, 723, 724, 725, 726, 727, 728, 729, 730] (by decide +kernel) (by decide +kernel)
set_option maxRecDepth 20000 in
theorem gL_law_X6_perform : GoodIn wsL_law (wsV RL 49 RX6 yX6_perform wsX6_perform) := goodIn_app (goodIn_of _ (by decide +kernel)) ggL_law_X6_perform
set_option maxRecDepth 20000 in
theorem ggL_law_X5_stopped : GoodIn wsL_law wsX5_stopped := goodIn_r _ [512, 457, 458, 459, 90, 91, 2, 92, 704, 705, 706, 707, 708, 709, 710, 711, 712] (by decide +kernel) (by decide +kernel)
set_option maxRecDepth 20000 in
theorem gL_law_X5_stopped : GoodIn wsL_law (wsV RL 50 RX5 yX5_stopped wsX5_stopped) := goodIn_app (goodIn_of _ (by decide +kernel)) ggL_law_X5_stopped
set_option maxRecDepth 20000 in
theorem ggL_law_X6_stopped : GoodIn wsL_law wsX6_stopped := goodIn_r _ [516, 82, 470, 218, 219, 5, 220, 713, 714, 715, 716, 717, 718, 719, 720, 721, 722, 723, 724, 725, 726, 727, 728, 729, 730] (by decide +kernel) (by decide +kernel)
set_option maxRecDepth 20000 in
theorem gL_law_X6_stopped : GoodIn wsL_law (wsV RL 53 RX6 yX6_stopped wsX6_stopped) := goodIn_app (goodIn_of _ (by decide +kernel)) ggL_law_X6_stopped
set_option maxRecDepth 20000 in
theorem ggL_law_X5_undo : GoodIn wsL_law wsX5_undo := goodIn_r _ [520, 21, 521, 15, 522, 523, 524, 20, 525, 101, 62, 100, 102, 103, 104, 14, 105, 31, 106, 107, 108, 109, 33, 34, 35, 110, 111, 112, 113, 114, 37, 115, 42, 116, 43, 45, 46, 50, 117, 118, 119, 49, 120, 54, 121, 55, 56, 704, 705, 706, 707, 708, 709, 710, 711, 712, 737, 738, 739, 731, 732, 733, 734, 735, 736, 748, 749, 750, 751, 752, 753, 754, 755] (by decide +kernel) (by decide +kernel)
set_option maxRecDepth 20000 in
theorem gL_law_X5_undo : GoodIn wsL_law (wsV RL 54 RX5 yX5_undo wsX5_undo) := goodIn_app (goodIn_of _ (by decide +kernel)) ggL_law_X5_undo
set_option maxRecDepth 20000 in
theorem ggL_law_X6_undo : GoodIn wsL_law wsX6_undo := goodIn_r _ [529, 228, 77, 79, 713, 714, 715, 716, 717, 718, 719, 720, 721, 722, 723, 724, 725, 726, 727, 728, 729, 730] (by decide +kernel) (by decide +kernel)
set_option maxRecDepth 20000 in
theorem gL_law_X6_undo : GoodIn wsL_law (wsV RL 57 RX6 yX6_undo wsX6_undo) := goodIn_app (goodIn_of _ (by decide +kernel)) ggL_law_X6_undo
set_option maxRecDepth 20000 in
theorem ggL_law_X5_keep : GoodIn wsL_law wsX5_keep := goodIn_r _ [533, 17, 15, 534, 444, 103, 104, 14, 105, 31, 106, 107, 108, 109, 33, 34, 35, 110, 111, 112, 113, 114, 37, 115, 42, 116, 43, 45, 46, 50, 117, 118, 119, 49, 120, 54, 121, 55, 56, 535, 536, 537, 538, 539, 349, 350, 351, 704, 705, 706, 707, 708, 709, 710, 711, 712, 731, 732, 733, 734, 735, 736, 748, 749, 750, 751, 752, 753, 754, 755] (by decide +kernel) (by decide +kernel)
set_option maxRecDepth 20000 in
theorem gL_law_X5_keep : GoodIn wsL_law (wsV RL 58 RX5 yX5_keep wsX5_keep) := goodIn_app (goodIn_of _ (by decide +kernel)) ggL_law_X5_keep
set_option maxRecDepth 20000 in
theorem ggL_law_X6_keep : GoodIn wsL_law wsX6_keep := goodIn_r _ [543, 80, 77, 544, 545, 546, 547, 5, 548, 372, 373, 374, 375, 713, 714, 715, 716, 717, 718, 719, 720, 721, 722, 723, 724, 725, 726, 727, 728, 729, 730] (by decide +kernel) (by decide +kernel)
set_option maxRecDepth 20000 in
theorem gL_law_X6_keep : GoodIn wsL_law (wsV RL 61 RX6 yX6_keep wsX6_keep) := goodIn_app (goodIn_of _ (by decide +kernel)) ggL_law_X6_keep
set_option maxRecDepth 20000 in
theorem ggL_law_X5_restore : GoodIn wsL_law wsX5_restore := goodIn_r _ [552, 534, 21, 15, 17, 96, 97, 98, 20, 99, 62, 100, 101, 102, 103, 104, 14, 105, 31, 106, 107, 108, 109, 33, 34, 35, 110, 111, 112, 113, 114, 37, 115, 42, 116, 43, 45, 46, 50, 117, 118, 119, 49, 120, 54, 121, 55, 56, 444, 535, 536, 537, 538, 539, 349, 350, 351, 704, 705, 706, 707, 708, 709, 710, 711, 712, 737, 738, 739, 731, 732, 733, 734, 735, 736, 748, 749, 750, 751, 752, 753, 754, 755] (by decide +kernel) (by decide +kernel)
set_option maxRecDepth 20000 in
theorem gL_law_X5_restore : GoodIn wsL_law (wsV RL 62 RX5 yX5_restore wsX5_restore) := goodIn_app (goodIn_of _ (by decide +kernel)) ggL_law_X5_restore
set_option maxRecDepth 20000 in
theorem ggL_law_X6_restore : GoodIn wsL_law wsX6_restore := goodIn_r _ [556, 544, 77, 80, 224, 225, 226, 5, 227, 228, 79, 545, 546, 547, 548, 372, 373, 374, 375, 713, 714, 715, 716, 717, 718, 719, 720, 721, 722, 723, 724, 725, 726, 727, 728, 729, 730] (by decide +kernel) (by decide +kernel)
set_option maxRecDepth 20000 in
theorem gL_law_X6_restore : GoodIn wsL_law (wsV RL 65 RX6 yX6_restore wsX6_restore) := goodIn_app (goodIn_of _ (by decide +kernel)) ggL_law_X6_restore
set_option maxRecDepth 20000 in
theorem ggL_law_X5_core : GoodIn wsL_law wsX5_core := goodIn_r _ [560, 15, 326, 561, 562, 87, 88, 2, 89, 90, 91, 92, 563, 349, 350, 37, 351, 42, 564, 565, 566, 567, 45, 357, 358, 568, 199, 200, 49, 201, 54, 569, 570, 571, 572, 55, 573, 354, 355, 356, 56, 704, 705, 706, 707, 708, 709, 710, 711, 712, 731, 732, 733, 734, 735, 736, 748, 749, 750, 751, 752, 753, 754, 755] (by decide +kernel) (by decide +kernel)
set_option maxRecDepth 20000 in
theorem gL_law_X5_core : GoodIn wsL_law (wsV RL 66 RX5 yX5_core wsX5_core) := goodIn_app (goodIn_of _ (by decide +kernel)) ggL_law_X5_core
set_option maxRecDepth 20000 in
theorem ggL_law_X6_core : GoodIn wsL_law wsX6_core := goodIn_r _ [577, 77, 215, 216, 5, 217, 218, 219, 220, 372, 373, 374, 375, 578, 579, 580, 581, 286, 287, 288, 289, 582, 583, 584, 585, 376, 377, 378, 379, 240, 241, 242, 713, 714, 715, 716, 717, 718, 719, 720, 721, 722, 723, 724, 725, 726, 727, 728, 729, 730] (by decide +kernel) (by decide +kernel)
set_option maxRecDepth 20000 in
theorem gL_law_X6_core : GoodIn wsL_law (wsV RL 69 RX6 yX6_core wsX6_core) := goodIn_app (goodIn_of _ (by decide +kernel)) ggL_law_X6_core
set_option maxRecDepth 20000 in
theorem ggL_law_X5_held : GoodIn wsL_law wsX5_held := goodIn_r _ [589, 15, 326, 590, 591, 592, 87, 88, 2, 89, 90, 91, 92, 704, 705, 706, 707, 708, 709, 710, 711, 712, 731, 732, 733, 734, 735, 736, 748, 749, 750, 751, 752] (by decide +kernel) (by decide +kernel)
set_option maxRecDepth 20000 in
theorem gL_law_X5_held : GoodIn wsL_law (wsV RL 70 RX5 yX5_held wsX5_held) := goodIn_app (goodIn_of _ (by decide +kernel)) ggL_law_X5_held
set_option maxRecDepth 20000 in
theorem ggL_law_X6_held : GoodIn wsL_law wsX6_held := goodIn_r _ [596, 77, 215, 216, 5, 217, 218, 219, 220, 713, 714, 715, 716, 717, 718, 719, 720, 721, 722, 723, 724, 725, 726, 727, 728, 729, 730] (by decide +kernel) (by decide +kernel)
set_option maxRecDepth 20000 in
theorem gL_law_X6_held : GoodIn wsL_law (wsV RL 73 RX6 yX6_held wsX6_held) := goodIn_app (goodIn_of _ (by decide +kernel)) ggL_law_X6_held
set_option maxRecDepth 20000 in
theorem ggL_law_X5_counter : GoodIn wsL_law wsX5_counter := goodIn_r _ [600, 15, 326, 561, 601, 87, 88, 2, 89, 90, 91, 92, 704, 705, 706, 707, 708, 709, 710, 711, 712, 731, 732, 733, 734, 735, 736, 748, 749, 750, 751, 752, 753, 754, 755] (by decide +kernel) (by decide +kernel)
set_option maxRecDepth 20000 in
theorem gL_law_X5_counter : GoodIn wsL_law (wsV RL 74 RX5 yX5_counter wsX5_counter) := goodIn_app (goodIn_of _ (by decide +kernel)) ggL_law_X5_counter
set_option maxRecDepth 20000 in
theorem ggL_law_X6_counter : GoodIn wsL_law wsX6_counter := goodIn_r _ [605, 77, 215, 216, 5, 217, 218, 219, 220, 713, 714, 715, 716, 717, 718, 719, 720, 721, 722, 723, 724, 725, 726, 727, 728, 729, 730] (by decide +kernel) (by decide +kernel)
set_option maxRecDepth 20000 in
theorem gL_law_X6_counter : GoodIn wsL_law (wsV RL 77 RX6 yX6_counter wsX6_counter) := goodIn_app (goodIn_of _ (by decide +kernel)) ggL_law_X6_counter
set_option maxRecDepth 20000 in
theorem ggL_law_X5_bit : GoodIn wsL_law wsX5_bit := goodIn_r _ [609, 15, 326, 561, 610, 87, 88, 2, 89, 90, 91, 92, 704, 705, 706, 707, 708, 709, 710, 711, 712, 731, 732, 733, 734, 735, 736, 748, 749, 750, 751, 752, 753, 754, 755] (by decide +kernel) (by decide +kernel)
set_option maxRecDepth 20000 in
theorem gL_law_X5_bit : GoodIn wsL_law (wsV RL 78 RX5 yX5_bit wsX5_bit) := goodIn_app (goodIn_of _ (by decide +kernel)) ggL_law_X5_bit
set_option maxRecDepth 20000 in
theorem ggL_law_X6_bit : GoodIn wsL_law wsX6_bit := goodIn_r _ [614, 77, 215, 216, 5, 217, 218, 219, 220, 713, 714, 715, 716, 717, 718, 719, 720, 721, 722, 723, 724, 725, 726, 727, 728, 729, 730] (by decide +kernel) (by decide +kernel)
set_option maxRecDepth 20000 in
theorem gL_law_X6_bit : GoodIn wsL_law (wsV RL 81 RX6 yX6_bit wsX6_bit) := goodIn_app (goodIn_of _ (by decide +kernel)) ggL_law_X6_bit
set_option maxRecDepth 20000 in
theorem ggL_law_X5_line : GoodIn wsL_law wsX5_line := goodIn_r _ [618, 15, 619, 93, 94, 2, 95, 90, 91, 92, 620, 621, 622, 14, 623, 33, 127, 31, 131, 132, 133, 37, 134, 42, 135, 129, 130, 128, 624, 625, 626, 627, 628, 629, 630, 631, 185, 632, 141, 142, 49, 143, 54, 144, 145, 146, 147, 56, 148, 149, 150, 151, 152, 153, 633, 634, 704, 705, 706, 707, 708, 709, 710, 711, 712, 731, 732, 733, 734, 735, 736, 748, 749, 750, 751, 752, 753, 754, 755] (by decide +kernel) (by decide +kernel)
set_option maxRecDepth 20000 in
theorem gL_law_X5_line : GoodIn wsL_law (wsV RL 82 RX5 yX5_line wsX5_line) := goodIn_app (goodIn_of _ (by decide +kernel)) ggL_law_X5_line
set_option maxRecDepth 20000 in
theorem ggL_law_X6_line : GoodIn wsL_law wsX6_line := goodIn_r _ [638, 77, 221, 222, 5, 223, 218, 219, 220, 639, 640, 641, 642, 237, 238, 239, 251, 252, 253, 254, 255, 256, 257, 258, 259, 260, 261, 262, 263, 264, 265, 233, 234, 235, 236, 643, 644, 645, 646, 713, 714, 715, 716, 717, 718, 719, 720, 721, 722, 723, 724, 725, 726, 727, 728, 729, 730] (by decide +kernel) (by decide +kernel)
set_option maxRecDepth 20000 in
theorem gL_law_X6_line : GoodIn wsL_law (wsV RL 85 RX6 yX6_line wsX6_line) := goodIn_app (goodIn_of _ (by decide +kernel)) ggL_law_X6_line
set_option maxRecDepth 20000 in
theorem ggL_law_X5_reason : GoodIn wsL_law wsX5_reason := goodIn_r _ [650, 15, 326, 561, 87, 88, 2, 89, 90, 91, 92, 93, 94, 95, 327, 132, 133, 37, 134, 42, 135, 129, 130, 651, 141, 142, 49, 143, 54, 144, 145, 146, 147, 56, 148, 149, 150, 151, 152, 153, 652, 704, 705, 706, 707, 708, 709, 710, 711, 712, 731, 732, 733, 734, 735, 736, 748, 749, 750, 751, 752, 753, 754, 755] (by decide +kernel) (by decide +kernel)
set_option maxRecDepth 20000 in
theorem gL_law_X5_reason : GoodIn wsL_law (wsV RL 86 RX5 yX5_reason wsX5_reason) := goodIn_app (goodIn_of _ (by decide +kernel)) ggL_law_X5_reason
set_option maxRecDepth 20000 in
theorem ggL_law_X6_reason : GoodIn wsL_law wsX6_reason := goodIn_r _ [656, 215, 216, 5, 217, 218, 219, 220, 221, 222, 223, 251, 252, 253, 254, 77, 255, 256, 257, 258, 259, 260, 261, 262, 263, 264, 265, 233, 234, 235, 236, 237, 238, 239, 713, 714, 715, 716, 717, 718, 719, 720, 721, 722, 723, 724, 725, 726, 727, 728, 729, 730] (by decide +kernel) (by decide +kernel)
set_option maxRecDepth 20000 in
theorem gL_law_X6_reason : GoodIn wsL_law (wsV RL 89 RX6 yX6_reason wsX6_reason) := goodIn_app (goodIn_of _ (by decide +kernel)) ggL_law_X6_reason
set_option maxRecDepth 20000 in
theorem ggL_law_X5_cost : GoodIn wsL_law wsX5_cost := goodIn_r _ [660, 16, 15, 661, 87, 88, 2, 89, 90, 91, 92, 93, 94, 95, 444, 103, 104, 14, 105, 31, 106, 107, 108, 109, 33, 34, 35, 110, 111, 112, 113, 114, 37, 115, 42, 116, 43, 45, 46, 50, 117, 118, 119, 49, 120, 54, 121, 55, 56, 302, 303, 304, 305, 306, 307, 308, 309, 154, 132, 133, 134, 135, 129, 130, 310, 311, 312, 313, 136, 137, 138, 139, 140, 141, 142, 143, 144, 145, 146, 147, 148, 149, 150, 151, 152, 153, 131, 165, 166, 167, 168, 169, 170, 171, 172, 173, 174, 175, 176, 177, 178, 179, 180, 186, 187, 188, 189, 128, 161, 162, 163, 164, 159, 155, 156, 157, 158, 160, 127, 181, 182, 183, 184, 185, 190, 191, 192, 193, 194, 195, 196, 197, 198, 199, 200, 201, 202, 203, 204, 205, 126, 206, 207, 208, 209, 210, 122, 123, 124, 125, 662, 663, 664, 665, 704, 705, 706, 707, 708, 709, 710, 711, 712, 731, 732, 733, 734, 735, 736, 748, 749, 750, 751, 752, 753, 754, 755] (by decide +kernel) (by decide +kernel)
set_option maxRecDepth 20000 in
theorem gL_law_X5_cost : GoodIn wsL_law (wsV RL 90 RX5 yX5_cost wsX5_cost) := goodIn_app (goodIn_of _ (by decide +kernel)) ggL_law_X5_cost
set_option maxRecDepth 20000 in
theorem ggL_law_X6_cost : GoodIn wsL_law wsX6_cost := goodIn_r _ [669, 77, 215, 216, 5, 217, 218, 219, 220, 221, 222, 223, 501, 502, 503, 504, 78, 670, 671, 672, 673, 240, 241, 242, 318, 319, 320, 321, 237, 238, 239, 233, 234, 235, 236, 243, 244, 245, 246, 247, 248, 249, 250, 251, 252, 253, 254, 255, 256, 257, 258, 259, 260, 261, 262, 263, 264, 265, 266, 267, 268, 269, 270, 271, 272, 273, 274, 275, 276, 277, 278, 279, 280, 281, 282, 283, 284, 285, 286, 287, 288, 289, 290, 291, 292, 293, 294, 295, 296, 297, 229, 230, 231, 232, 505, 506, 507, 508, 713, 714, 715, 716, 717, 718, 719, 720, 721, 722, 723, 724, 725, 726, 727, 728, 729, 730] (by decide +kernel) (by decide +kernel)
set_option maxRecDepth 20000 in
theorem gL_law_X6_cost : GoodIn wsL_law (wsV RL 94 RX6 yX6_cost wsX6_cost) := goodIn_app (goodIn_of _ (by decide +kernel)) ggL_law_X6_cost
set_option maxRecDepth 20000 in
theorem ggL_law_X5_vain : GoodIn wsL_law wsX5_vain := goodIn_r _ [677, 15, 326, 561, 87, 88, 2, 89, 90, 91, 92, 651, 141, 142, 49, 143, 54, 144, 145, 146, 147, 56, 148, 149, 150, 151, 152, 153, 327, 132, 133, 37, 134, 42, 135, 129, 130, 704, 705, 706, 707, 708, 709, 710, 711, 712, 731, 732, 733, 734, 735, 736, 748, 749, 750, 751, 752, 753, 754, 755] (by decide +kernel) (by decide +kernel)
set_option maxRecDepth 20000 in
theorem gL_law_X5_vain : GoodIn wsL_law (wsV RL 95 RX5 yX5_vain wsX5_vain) := goodIn_app (goodIn_of _ (by decide +kernel)) ggL_law_X5_vain
set_option maxRecDepth 20000 in
theorem ggL_law_X6_vain : GoodIn wsL_law wsX6_vain := goodIn_r _ [681, 215, 216, 5, 217, 218, 219, 220, 251, 252, 253, 254, 77, 255, 256, 257, 258, 259, 260, 261, 262, 263, 264, 265, 233, 234, 235, 236, 237, 238, 239, 713, 714, 715, 716, 717, 718, 719, 720, 721, 722, 723, 724, 725, 726, 727, 728, 729, 730] (by decide +kernel) (by decide +kernel)
set_option maxRecDepth 20000 in
theorem gL_law_X6_vain : GoodIn wsL_law (wsV RL 98 RX6 yX6_vain wsX6_vain) := goodIn_app (goodIn_of _ (by decide +kernel)) ggL_law_X6_vain
set_option maxRecDepth 20000 in
theorem ggL_law_X5_worst : GoodIn wsL_law wsX5_worst := goodIn_r _ [685, 15, 326, 562, 704, 705, 706, 707, 708, 709, 710, 711, 712, 731, 732, 733, 734, 735, 736, 748, 749, 750, 751, 752] (by decide +kernel) (by decide +kernel)
set_option maxRecDepth 20000 in
theorem gL_law_X5_worst : GoodIn wsL_law (wsV RL 99 RX5 yX5_worst wsX5_worst) := goodIn_app (goodIn_of _ (by decide +kernel)) ggL_law_X5_worst
set_option maxRecDepth 20000 in
theorem ggL_law_X6_worst : GoodIn wsL_law wsX6_worst := goodIn_r _ [689, 77, 240, 241, 5, 242, 713, 714, 715, 716, 717, 718, 719, 720, 721, 722, 723, 724, 725, 726, 727, 728, 729, 730] (by decide +kernel) (by decide +kernel)
set_option maxRecDepth 20000 in
theorem gL_law_X6_worst : GoodIn wsL_law (wsV RL 102 RX6 yX6_worst wsX6_worst) := goodIn_app (goodIn_of _ (by decide +kernel)) ggL_law_X6_worst
set_option maxRecDepth 20000 in
theorem ggL_law_X5_count : GoodIn wsL_law wsX5_count := goodIn_r _ [693, 15, 661, 694, 384, 385, 21, 521, 25, 394, 535, 536, 537, 14, 538, 33, 539, 349, 350, 37, 351, 42, 695, 696, 697, 698, 699, 565, 566, 567, 45, 357, 2, 358, 662, 663, 664, 665, 126, 704, 705, 706, 707, 708, 709, 710, 711, 712, 731, 732, 733, 734, 735, 736, 737, 738, 739, 740, 741, 742, 743, 744, 745, 746, 747, 748, 749, 750, 751, 752] (by decide +kernel) (by decide +kernel)
set_option maxRecDepth 20000 in
theorem gL_law_X5_count : GoodIn wsL_law (wsV RL 103 RX5 yX5_count wsX5_count) := goodIn_app (goodIn_of _ (by decide +kernel)) ggL_law_X5_count
set_option maxRecDepth 20000 in
theorem ggL_law_X6_count : GoodIn wsL_law wsX6_count := goodIn_r _ [703, 77, 228, 404, 545, 546, 547, 5, 548, 372, 373, 374, 375, 578, 579, 580, 581, 670, 671, 672, 673, 240, 241, 242, 713, 714, 715, 716, 717, 718, 719, 720, 721, 722, 723, 724, 725, 726, 727, 728, 729, 730] (by decide +kernel) (by decide +kernel)
set_option maxRecDepth 20000 in
theorem gL_law_X6_count : GoodIn wsL_law (wsV RL 106 RX6 yX6_count wsX6_count) := goodIn_app (goodIn_of _ (by decide +kernel)) ggL_law_X6_count
