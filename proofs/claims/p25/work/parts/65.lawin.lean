/-! ===== the law's words among the tables', by their places ===== -/
theorem in_r {big ws : List Cond} (ps : List Nat) (hp : ws = ps.filterMap (fun i => big[i]?)) : ∀ w ∈ ws, w ∈ big := by
  intro w hw
  rw [hp] at hw
  obtain ⟨i, -, hi⟩ := List.mem_filterMap.mp hw
  exact List.mem_of_getElem? hi
set_option maxRecDepth 100000 in
theorem i_wsL_law_r1 : ∀ w ∈ wsL_law_r1, w ∈ lw_tbl := in_r [15, 16, 8, 17, 18, 19, 20, 21, 22, 23, 24, 9, 157, 158, 159, 107, 108, 12, 160, 127, 128, 13, 161, 25] (by decide +kernel)
set_option maxRecDepth 100000 in
theorem i_wsL_law_r2 : ∀ w ∈ wsL_law_r2, w ∈ lw_tbl := in_r [26, 27, 28, 54, 82, 29, 84, 86, 88, 31, 10, 32, 33, 34, 35, 56, 59, 55, 62, 65, 36, 37, 11, 68] (by decide +kernel)
set_option maxRecDepth 100000 in
theorem i_wsL_law_r3 : ∀ w ∈ wsL_law_r3, w ∈ lw_tbl := in_r [39, 40, 41, 42, 44, 45, 109, 110, 111, 112, 113, 116, 115, 130, 131, 132, 156, 133, 134, 135, 136, 137, 233, 234] (by decide +kernel)
set_option maxRecDepth 100000 in
theorem i_wsL_law_r4 : ∀ w ∈ wsL_law_r4, w ∈ lw_tbl := in_r [7, 235, 206, 207, 208, 209, 91, 93, 87, 89, 119, 138, 210, 211, 212, 213, 214, 215, 216, 217, 218, 219, 220, 221] (by decide +kernel)
set_option maxRecDepth 100000 in
theorem i_wsL_law_r5 : ∀ w ∈ wsL_law_r5, w ∈ lw_tbl := in_r [222, 223, 224, 225, 227, 228, 229, 230, 231, 232, 66, 240, 241, 242, 236, 237, 238, 239, 243, 244, 245, 246, 247, 248] (by decide +kernel)
set_option maxRecDepth 100000 in
theorem i_wsL_law_r6 : ∀ w ∈ wsL_law_r6, w ∈ lw_tbl := in_r [249, 250, 251, 252, 253, 254, 255, 256, 257, 258, 259, 117, 118, 189, 190, 191, 192, 193, 195, 194, 14, 90, 92, 196] (by decide +kernel)
set_option maxRecDepth 100000 in
theorem i_wsL_law_r7 : ∀ w ∈ wsL_law_r7, w ∈ lw_tbl := in_r [197, 198, 199, 200, 201, 202, 203, 204, 205, 260, 261, 262, 263, 60, 264, 265, 266, 267, 268, 269, 270, 271, 272, 273] (by decide +kernel)
set_option maxRecDepth 100000 in
theorem i_wsL_law_r8 : ∀ w ∈ wsL_law_r8, w ∈ lw_tbl := in_r [274, 275, 276, 277, 278, 279, 280, 281, 282, 283, 284, 285, 286, 287, 288, 289, 290, 291, 293, 0, 294, 57, 63, 295] (by decide +kernel)
set_option maxRecDepth 100000 in
theorem i_wsL_law_r9 : ∀ w ∈ wsL_law_r9, w ∈ lw_tbl := in_r [297, 1, 298, 299, 300, 301, 302, 303, 304, 305, 306, 307, 309, 2, 310, 311, 312, 313, 314, 315, 317, 3, 318, 69] (by decide +kernel)
set_option maxRecDepth 100000 in
theorem i_wsL_law_r10 : ∀ w ∈ wsL_law_r10, w ∈ lw_tbl := in_r [319, 320, 321, 322, 323, 324, 325, 326, 327, 329, 4, 330, 331, 332, 333, 334, 335, 337, 5, 338, 339, 340, 341, 342] (by decide +kernel)
set_option maxRecDepth 100000 in
theorem i_wsL_law_r11 : ∀ w ∈ wsL_law_r11, w ∈ lw_tbl := in_r [343, 344, 345, 346, 347, 348, 349, 350, 351, 352, 353, 354, 355, 356, 358, 6, 359, 360, 361, 362, 363, 85, 364, 365] (by decide +kernel)
set_option maxRecDepth 100000 in
theorem i_wsL_law_r12 : ∀ w ∈ wsL_law_r12, w ∈ lw_tbl := in_r [366, 367, 368, 369, 370, 371, 372, 373, 374, 375, 376, 377, 378, 379, 380, 381, 382, 384, 385, 386, 387, 388, 389, 390] (by decide +kernel)
set_option maxRecDepth 100000 in
theorem i_wsL_law_r13 : ∀ w ∈ wsL_law_r13, w ∈ lw_tbl := in_r [391, 392, 393, 394, 395, 396, 397, 398, 399, 67, 400, 401, 402, 403, 58, 61, 64, 404, 405, 406, 407, 70, 43, 408] (by decide +kernel)
set_option maxRecDepth 100000 in
theorem i_wsL_law_r14 : ∀ w ∈ wsL_law_r14, w ∈ lw_tbl := in_r [409, 410, 411, 412, 413, 414, 415, 416, 417, 418, 419, 420, 421, 422, 423, 83, 424, 425, 426, 427, 428, 429, 430, 431] (by decide +kernel)
set_option maxRecDepth 100000 in
theorem i_wsL_law_r15 : ∀ w ∈ wsL_law_r15, w ∈ lw_tbl := in_r [432, 433, 434, 435, 436, 437, 438, 181, 182, 183, 184, 185, 186, 187, 188, 439, 440, 441, 442, 443, 444, 445, 446, 447] (by decide +kernel)
set_option maxRecDepth 100000 in
theorem i_wsL_law_r16 : ∀ w ∈ wsL_law_r16, w ∈ lw_tbl := in_r [448, 46, 449, 450, 451, 452, 453, 454, 455, 456, 457, 458, 459, 460, 461, 462] (by decide +kernel)
set_option maxRecDepth 100000 in
theorem inX5 : ∀ w ∈ wsX50, w ∈ lw_tbl := by decide +kernel
set_option maxRecDepth 100000 in
theorem inX3 : ∀ w ∈ wsX30, w ∈ lw_tbl := by decide +kernel
set_option maxRecDepth 100000 in
theorem inX2 : ∀ w ∈ wsX20, w ∈ lw_tbl := by decide +kernel
set_option maxRecDepth 100000 in
theorem inX4 : ∀ w ∈ wsX40, w ∈ lw_tbl := by decide +kernel
set_option maxRecDepth 100000 in
theorem inX0 : ∀ w ∈ wsX00, w ∈ lw_tbl := by decide +kernel
set_option maxRecDepth 100000 in
theorem inX1 : ∀ w ∈ wsX10, w ∈ lw_tbl := by decide +kernel
theorem wsL_law_in : ∀ w ∈ wsL_law, w ∈ lw_tbl := List.forall_mem_append.mpr ⟨List.forall_mem_append.mpr ⟨List.forall_mem_append.mpr ⟨List.forall_mem_append.mpr ⟨List.forall_mem_append.mpr ⟨List.forall_mem_append.mpr ⟨List.forall_mem_append.mpr ⟨List.forall_mem_append.mpr ⟨i_wsL_law_r1, List.forall_mem_append.mpr ⟨i_wsL_law_r2, List.forall_mem_append.mpr ⟨i_wsL_law_r3, List.forall_mem_append.mpr ⟨i_wsL_law_r4, List.forall_mem_append.mpr ⟨i_wsL_law_r5, List.forall_mem_append.mpr ⟨i_wsL_law_r6, List.forall_mem_append.mpr ⟨i_wsL_law_r7, List.forall_mem_append.mpr ⟨i_wsL_law_r8, List.forall_mem_append.mpr ⟨i_wsL_law_r9, List.forall_mem_append.mpr ⟨i_wsL_law_r10, List.forall_mem_append.mpr ⟨i_wsL_law_r11, List.forall_mem_append.mpr ⟨i_wsL_law_r12, List.forall_mem_append.mpr ⟨i_wsL_law_r13, List.forall_mem_append.mpr ⟨i_wsL_law_r14, List.forall_mem_append.mpr ⟨i_wsL_law_r15, i_wsL_law_r16⟩⟩⟩⟩⟩⟩⟩⟩⟩⟩⟩⟩⟩⟩⟩, inX5⟩, inX3⟩, inX2⟩, inX4⟩, inX0⟩, inX1⟩, fun _ h => absurd h List.not_mem_nil⟩
