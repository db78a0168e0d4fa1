/-! ===== the law's words among the tables', by their places ===== -/
theorem in_r {big ws : List Cond} (ps : List Nat) (hp : ws = ps.filterMap (fun i => big[i]?)) : ∀ w ∈ ws, w ∈ big := by
  intro w hw
  rw [hp] at hw
  obtain ⟨i, -, hi⟩ := List.mem_filterMap.mp hw
  exact List.mem_of_getElem? hi
set_option maxRecDepth 100000 in
theorem i_wsL_law_r1 : ∀ w ∈ wsL_law_r1, w ∈ lw_tbl := in_r [57, 58, 49, 563, 564, 55, 59, 60, 61, 62, 63, 64, 65, 66, 50, 203, 204, 205, 149, 150, 53, 206, 169, 170] (by decide +kernel)
set_option maxRecDepth 100000 in
theorem i_wsL_law_r2 : ∀ w ∈ wsL_law_r2, w ∈ lw_tbl := in_r [54, 207, 67, 68, 69, 70, 96, 124, 71, 126, 128, 130, 73, 51, 74, 75, 76, 77, 98, 101, 97, 104, 107, 78] (by decide +kernel)
set_option maxRecDepth 100000 in
theorem i_wsL_law_r3 : ∀ w ∈ wsL_law_r3, w ∈ lw_tbl := in_r [79, 52, 110, 81, 82, 83, 84, 86, 87, 151, 152, 153, 154, 155, 158, 157, 172, 173, 174, 202, 175, 176, 177, 178] (by decide +kernel)
set_option maxRecDepth 100000 in
theorem i_wsL_law_r4 : ∀ w ∈ wsL_law_r4, w ∈ lw_tbl := in_r [179, 565, 566, 567, 568, 569, 570, 571, 573, 575, 577, 231, 232, 233, 234, 235, 236, 237, 238, 239, 240, 241, 242, 243] (by decide +kernel)
set_option maxRecDepth 100000 in
theorem i_wsL_law_r5 : ∀ w ∈ wsL_law_r5, w ∈ lw_tbl := in_r [244, 245, 246, 247, 159, 160, 248, 249, 250, 251, 252, 254, 253, 56, 132, 134, 255, 256, 257, 258, 259, 260, 261, 262] (by decide +kernel)
set_option maxRecDepth 100000 in
theorem i_wsL_law_r6 : ∀ w ∈ wsL_law_r6, w ∈ lw_tbl := in_r [263, 264, 265, 266, 267, 268, 108, 102, 269, 270, 271, 272, 273, 274, 275, 276, 277, 278, 279, 280, 281, 282, 283, 284] (by decide +kernel)
set_option maxRecDepth 100000 in
theorem i_wsL_law_r7 : ∀ w ∈ wsL_law_r7, w ∈ lw_tbl := in_r [285, 286, 287, 288, 289, 290, 291, 292, 293, 294, 295, 296, 298, 0, 299, 99, 105, 300, 302, 1, 303, 304, 305, 306] (by decide +kernel)
set_option maxRecDepth 100000 in
theorem i_wsL_law_r8 : ∀ w ∈ wsL_law_r8, w ∈ lw_tbl := in_r [307, 308, 309, 310, 311, 312, 314, 2, 315, 316, 317, 318, 319, 320, 322, 3, 323, 111, 324, 325, 326, 327, 328, 329] (by decide +kernel)
set_option maxRecDepth 100000 in
theorem i_wsL_law_r9 : ∀ w ∈ wsL_law_r9, w ∈ lw_tbl := in_r [330, 331, 332, 334, 4, 335, 336, 337, 338, 339, 340, 342, 5, 343, 344, 345, 346, 347, 348, 624, 625, 626, 627, 628] (by decide +kernel)
set_option maxRecDepth 100000 in
theorem i_wsL_law_r10 : ∀ w ∈ wsL_law_r10, w ∈ lw_tbl := in_r [629, 630, 631, 632, 633, 634, 635, 636, 637, 639, 13, 640, 572, 641, 643, 14, 644, 645, 647, 15, 648, 649, 650, 651] (by decide +kernel)
set_option maxRecDepth 100000 in
theorem i_wsL_law_r11 : ∀ w ∈ wsL_law_r11, w ∈ lw_tbl := in_r [652, 653, 654, 655, 657, 16, 658, 659, 661, 17, 662, 663, 665, 18, 666, 667, 669, 19, 670, 671, 673, 20, 674, 675] (by decide +kernel)
set_option maxRecDepth 100000 in
theorem i_wsL_law_r12 : ∀ w ∈ wsL_law_r12, w ∈ lw_tbl := in_r [676, 677, 678, 680, 21, 681, 682, 684, 22, 685, 686, 688, 23, 689, 690, 692, 24, 693, 694, 696, 25, 697, 698, 700] (by decide +kernel)
set_option maxRecDepth 100000 in
theorem i_wsL_law_r13 : ∀ w ∈ wsL_law_r13, w ∈ lw_tbl := in_r [26, 701, 702, 704, 27, 705, 706, 708, 28, 709, 349, 350, 351, 352, 353, 354, 355, 356, 357, 358, 359, 360, 361, 363] (by decide +kernel)
set_option maxRecDepth 100000 in
theorem i_wsL_law_r14 : ∀ w ∈ wsL_law_r14, w ∈ lw_tbl := in_r [6, 364, 710, 711, 712, 713, 714, 716, 29, 717, 365, 366, 367, 368, 127, 369, 370, 371, 372, 373, 718, 719, 720, 721] (by decide +kernel)
set_option maxRecDepth 100000 in
theorem i_wsL_law_r15 : ∀ w ∈ wsL_law_r15, w ∈ lw_tbl := in_r [722, 724, 30, 725, 374, 375, 376, 377, 378, 379, 380, 381, 382, 383, 384, 385, 386, 387, 388, 389, 390, 392, 393, 394] (by decide +kernel)
set_option maxRecDepth 100000 in
theorem i_wsL_law_r16 : ∀ w ∈ wsL_law_r16, w ∈ lw_tbl := in_r [395, 396, 397, 398, 726, 727, 728, 729, 730, 732, 31, 733, 734, 736, 32, 737, 738, 740, 33, 741, 399, 400, 401, 402] (by decide +kernel)
set_option maxRecDepth 100000 in
theorem i_wsL_law_r17 : ∀ w ∈ wsL_law_r17, w ∈ lw_tbl := in_r [129, 131, 742, 743, 744, 745, 403, 404, 405, 406, 181, 407, 408, 409, 410, 180, 746, 747, 748, 749, 576, 411, 412, 413] (by decide +kernel)
set_option maxRecDepth 100000 in
theorem i_wsL_law_r18 : ∀ w ∈ wsL_law_r18, w ∈ lw_tbl := in_r [414, 750, 751, 752, 753, 415, 416, 417, 418, 183, 419, 420, 421, 422, 184, 182, 423, 425, 7, 426, 427, 429, 8, 430] (by decide +kernel)
set_option maxRecDepth 100000 in
theorem i_wsL_law_r19 : ∀ w ∈ wsL_law_r19, w ∈ lw_tbl := in_r [431, 433, 9, 434, 435, 437, 10, 438, 439, 441, 11, 442, 443, 444, 445, 446, 447, 448, 449, 450, 451, 452, 454, 12] (by decide +kernel)
set_option maxRecDepth 100000 in
theorem i_wsL_law_r20 : ∀ w ∈ wsL_law_r20, w ∈ lw_tbl := in_r [455, 209, 210, 211, 456, 457, 458, 459, 754, 755, 756, 757, 585, 586, 578, 758, 760, 34, 761, 579, 580, 762, 764, 35] (by decide +kernel)
set_option maxRecDepth 100000 in
theorem i_wsL_law_r21 : ∀ w ∈ wsL_law_r21, w ∈ lw_tbl := in_r [765, 581, 582, 583, 584, 766, 768, 36, 769, 770, 772, 37, 773, 774, 776, 38, 777, 778, 780, 39, 781, 782, 784, 40] (by decide +kernel)
set_option maxRecDepth 100000 in
theorem i_wsL_law_r22 : ∀ w ∈ wsL_law_r22, w ∈ lw_tbl := in_r [785, 786, 788, 41, 789, 460, 461, 462, 463, 790, 791, 792, 793, 464, 465, 466, 467, 161, 468, 469, 470, 471, 794, 795] (by decide +kernel)
set_option maxRecDepth 100000 in
theorem i_wsL_law_r23 : ∀ w ∈ wsL_law_r23, w ∈ lw_tbl := in_r [796, 797, 472, 473, 474, 475, 208, 476, 477, 478, 479, 480, 798, 799, 800, 801, 574, 802, 804, 42, 805, 481, 482, 483] (by decide +kernel)
set_option maxRecDepth 100000 in
theorem i_wsL_law_r24 : ∀ w ∈ wsL_law_r24, w ∈ lw_tbl := in_r [484, 806, 807, 808, 809, 485, 486, 487, 488, 112, 109, 489, 490, 491, 492, 493, 495, 496, 497, 498, 499, 500, 810, 811] (by decide +kernel)
set_option maxRecDepth 100000 in
theorem i_wsL_law_r25 : ∀ w ∈ wsL_law_r25, w ∈ lw_tbl := in_r [812, 813, 814, 816, 43, 817, 818, 820, 44, 821, 501, 502, 503, 504, 100, 103, 106, 822, 823, 824, 825, 505, 506, 507] (by decide +kernel)
set_option maxRecDepth 100000 in
theorem i_wsL_law_r26 : ∀ w ∈ wsL_law_r26, w ∈ lw_tbl := in_r [508, 85, 826, 827, 828, 829, 509, 510, 511, 512, 88, 830, 831, 832, 833, 513, 514, 515, 516, 125, 517, 518, 519, 520] (by decide +kernel)
set_option maxRecDepth 100000 in
theorem i_wsL_law_r27 : ∀ w ∈ wsL_law_r27, w ∈ lw_tbl := in_r [521, 522, 523, 524, 525, 526, 527, 528, 529, 530, 531, 834, 835, 836, 837, 838, 840, 45, 841, 842, 844, 46, 845, 532] (by decide +kernel)
set_option maxRecDepth 100000 in
theorem i_wsL_law_r28 : ∀ w ∈ wsL_law_r28, w ∈ lw_tbl := in_r [533, 534, 535, 536, 537, 846, 847, 848, 849, 538, 539, 540, 541, 133, 542, 543, 544, 545, 850, 851, 852, 853, 854, 856] (by decide +kernel)
set_option maxRecDepth 100000 in
theorem i_wsL_law_r29 : ∀ w ∈ wsL_law_r29, w ∈ lw_tbl := in_r [47, 857, 546, 547, 548, 549, 858, 859, 860, 861, 550, 551, 552, 553, 862, 863, 864, 865, 554, 555, 556, 557, 135, 558] (by decide +kernel)
set_option maxRecDepth 100000 in
theorem i_wsL_law_r30 : ∀ w ∈ wsL_law_r30, w ∈ lw_tbl := in_r [559, 560, 561, 562, 866, 867, 868, 869] (by decide +kernel)
set_option maxRecDepth 100000 in
theorem inX5 : ∀ w ∈ wsX50, w ∈ lw_tbl := by decide +kernel
set_option maxRecDepth 100000 in
theorem inX6 : ∀ w ∈ wsX60, w ∈ lw_tbl := by decide +kernel
set_option maxRecDepth 100000 in
theorem inX3 : ∀ w ∈ wsX30, w ∈ lw_tbl := by decide +kernel
set_option maxRecDepth 100000 in
theorem inX2 : ∀ w ∈ wsX20, w ∈ lw_tbl := by decide +kernel
set_option maxRecDepth 100000 in
theorem inX4 : ∀ w ∈ wsX40, w ∈ lw_tbl := by decide +kernel
set_option maxRecDepth 100000 in
theorem inX0 : ∀ w ∈ wsX00, w ∈ lw_tbl := by decide +kernel
set_option maxRecDepth 100000 in
theorem inX1 : ∀ w ∈ wsX10, w ∈ lw_tbl := by decide +kernel
theorem wsL_law_in : ∀ w ∈ wsL_law, w ∈ lw_tbl := List.forall_mem_append.mpr ⟨List.forall_mem_append.mpr ⟨List.forall_mem_append.mpr ⟨List.forall_mem_append.mpr ⟨List.forall_mem_append.mpr ⟨List.forall_mem_append.mpr ⟨List.forall_mem_append.mpr ⟨List.forall_mem_append.mpr ⟨List.forall_mem_append.mpr ⟨i_wsL_law_r1, List.forall_mem_append.mpr ⟨i_wsL_law_r2, List.forall_mem_append.mpr ⟨i_wsL_law_r3, List.forall_mem_append.mpr ⟨i_wsL_law_r4, List.forall_mem_append.mpr ⟨i_wsL_law_r5, List.forall_mem_append.mpr ⟨i_wsL_law_r6, List.forall_mem_append.mpr ⟨i_wsL_law_r7, List.forall_mem_append.mpr ⟨i_wsL_law_r8, List.forall_mem_append.mpr ⟨i_wsL_law_r9, List.forall_mem_append.mpr ⟨i_wsL_law_r10, List.forall_mem_append.mpr ⟨i_wsL_law_r11, List.forall_mem_append.mpr ⟨i_wsL_law_r12, List.forall_mem_append.mpr ⟨i_wsL_law_r13, List.forall_mem_append.mpr ⟨i_wsL_law_r14, List.forall_mem_append.mpr ⟨i_wsL_law_r15, List.forall_mem_append.mpr ⟨i_wsL_law_r16, List.forall_mem_append.mpr ⟨i_wsL_law_r17, List.forall_mem_append.mpr ⟨i_wsL_law_r18, List.forall_mem_append.mpr ⟨i_wsL_law_r19, List.forall_mem_append.mpr ⟨i_wsL_law_r20, List.forall_mem_append.mpr ⟨i_wsL_law_r21, List.forall_mem_append.mpr ⟨i_wsL_law_r22, List.forall_mem_append.mpr ⟨i_wsL_law_r23, List.forall_mem_append.mpr ⟨i_wsL_law_r24, List.forall_mem_append.mpr ⟨i_wsL_law_r25, List.forall_mem_append.mpr ⟨i_wsL_law_r26, List.forall_mem_append.mpr ⟨i_wsL_law_r27, List.forall_mem_append.mpr ⟨i_wsL_law_r28, List.forall_mem_append.mpr ⟨i_wsL_law_r29, i_wsL_law_r30⟩⟩⟩⟩⟩⟩⟩⟩⟩⟩⟩⟩⟩⟩⟩⟩⟩⟩⟩⟩⟩⟩⟩⟩⟩⟩⟩⟩⟩, inX5⟩, inX6⟩, inX3⟩, inX2⟩, inX4⟩, inX0⟩, inX1⟩, fun _ h => absurd h List.not_mem_nil⟩
