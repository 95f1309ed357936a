/-! ===== the law's words are the tables' (laid by wip/whole/lawin.py) ===== -/
theorem in_r {big : List Cond} (ws : List Cond) (ps : List Nat) (hp : ws = ps.filterMap (fun i => big[i]?)) : ∀ w ∈ ws, w ∈ big := by
  intro w hw
  rw [hp] at hw
  obtain ⟨i, -, hi⟩ := List.mem_filterMap.mp hw
  exact List.mem_of_getElem? hi
set_option maxRecDepth 100000 in
theorem lin_r1 : ∀ w ∈ wsL_law_r1, w ∈ lw_tbl := in_r _ [46, 47, 35, 608, 609, 41, 48, 49, 50, 51, 52, 53, 54, 55, 36, 173, 174, 139, 140, 39, 175, 159, 160, 40] rfl
set_option maxRecDepth 100000 in
theorem lin_r2 : ∀ w ∈ wsL_law_r2, w ∈ lw_tbl := in_r _ [176, 177, 57, 58, 59, 60, 61, 37, 100, 80, 81, 38, 102, 104, 106, 108, 110, 112, 113, 114, 116, 63, 64, 65] rfl
set_option maxRecDepth 100000 in
theorem lin_r3 : ∀ w ∈ wsL_law_r3, w ∈ lw_tbl := in_r _ [78, 66, 79, 67, 68, 83, 84, 85, 86, 87, 88, 89, 141, 142, 143, 144, 145, 148, 149, 150, 162, 163, 164, 165] rfl
set_option maxRecDepth 100000 in
theorem lin_r4 : ∀ w ∈ wsL_law_r4, w ∈ lw_tbl := in_r _ [166, 610, 611, 612, 613, 614, 615, 617, 620, 189, 190, 191, 192, 193, 194, 195, 196, 197, 198, 199, 200, 202, 0, 203] rfl
set_option maxRecDepth 100000 in
theorem lin_r5 : ∀ w ∈ wsL_law_r5, w ∈ lw_tbl := in_r _ [204, 205, 206, 207, 208, 209, 210, 211, 212, 214, 213, 42, 215, 216, 217, 218, 219, 220, 221, 222, 223, 224, 225, 226] rfl
set_option maxRecDepth 100000 in
theorem lin_r6 : ∀ w ∈ wsL_law_r6, w ∈ lw_tbl := in_r _ [227, 228, 229, 43, 230, 231, 232, 233, 703, 704, 705, 706, 674, 675, 676, 707, 709, 20, 710, 616, 640, 642, 8, 643] rfl
set_option maxRecDepth 100000 in
theorem lin_r7 : ∀ w ∈ wsL_law_r7, w ∈ lw_tbl := in_r _ [644, 646, 9, 647, 234, 235, 236, 237, 238, 239, 240, 241, 711, 712, 713, 714, 715, 717, 21, 718, 242, 243, 244, 245] rfl
set_option maxRecDepth 100000 in
theorem lin_r8 : ∀ w ∈ wsL_law_r8, w ∈ lw_tbl := in_r _ [719, 720, 721, 722, 246, 247, 248, 249, 250, 251, 44, 252, 253, 254, 255, 256, 257, 258, 259, 260, 261, 262, 263, 264] rfl
set_option maxRecDepth 100000 in
theorem lin_r9 : ∀ w ∈ wsL_law_r9, w ∈ lw_tbl := in_r _ [265, 266, 267, 269, 1, 270, 271, 272, 273, 274, 275, 276, 277, 278, 279, 280, 281, 282, 283, 284, 285, 286, 287, 288] rfl
set_option maxRecDepth 100000 in
theorem lin_r10 : ∀ w ∈ wsL_law_r10, w ∈ lw_tbl := in_r _ [289, 290, 291, 292, 293, 294, 295, 296, 297, 298, 299, 300, 301, 302, 303, 304, 306, 2, 307, 308, 310, 3, 311, 723] rfl
set_option maxRecDepth 100000 in
theorem lin_r11 : ∀ w ∈ wsL_law_r11, w ∈ lw_tbl := in_r _ [724, 725, 726, 727, 728, 729, 671, 672, 673, 730, 731, 732, 733, 735, 22, 736, 737, 739, 23, 740, 664, 666, 14, 667] rfl
set_option maxRecDepth 100000 in
theorem lin_r12 : ∀ w ∈ wsL_law_r12, w ∈ lw_tbl := in_r _ [684, 686, 16, 687, 688, 690, 17, 691, 312, 313, 314, 315, 316, 317, 318, 319, 320, 321, 322, 323, 741, 742, 743, 744] rfl
set_option maxRecDepth 100000 in
theorem lin_r13 : ∀ w ∈ wsL_law_r13, w ∈ lw_tbl := in_r _ [619, 324, 325, 326, 327, 745, 746, 747, 748, 328, 329, 330, 331, 332, 333, 334, 335, 336, 337, 338, 339, 340, 341, 342] rfl
set_option maxRecDepth 100000 in
theorem lin_r14 : ∀ w ∈ wsL_law_r14, w ∈ lw_tbl := in_r _ [343, 344, 345, 346, 347, 348, 349, 351, 4, 352, 353, 354, 355, 356, 357, 358, 359, 360, 361, 362, 363, 364, 365, 749] rfl
set_option maxRecDepth 100000 in
theorem lin_r15 : ∀ w ∈ wsL_law_r15, w ∈ lw_tbl := in_r _ [750, 751, 752, 753, 755, 24, 756, 757, 759, 25, 760, 366, 367, 368, 369, 370, 371, 372, 373, 374, 375, 376, 377, 378] rfl
set_option maxRecDepth 100000 in
theorem lin_r16 : ∀ w ∈ wsL_law_r16, w ∈ lw_tbl := in_r _ [379, 380, 381, 382, 761, 762, 763, 764, 765, 767, 26, 768, 383, 384, 385, 386, 387, 388, 389, 390, 391, 392, 393, 394] rfl
set_option maxRecDepth 100000 in
theorem lin_r17 : ∀ w ∈ wsL_law_r17, w ∈ lw_tbl := in_r _ [395, 396, 397, 416, 417, 45, 418, 398, 399, 400, 401, 402, 403, 404, 405, 406, 407, 408, 409, 410, 411, 412, 413, 414] rfl
set_option maxRecDepth 100000 in
theorem lin_r18 : ∀ w ∈ wsL_law_r18, w ∈ lw_tbl := in_r _ [415, 419, 420, 421, 422, 423, 424, 425, 426, 427, 428, 429, 430, 431, 45, 432, 433, 434, 435, 436, 769, 770, 771, 772] rfl
set_option maxRecDepth 100000 in
theorem lin_r19 : ∀ w ∈ wsL_law_r19, w ∈ lw_tbl := in_r _ [773, 637, 638, 639, 648, 650, 10, 651, 652, 654, 11, 655, 656, 658, 12, 659, 660, 662, 13, 663, 668, 669, 670, 677] rfl
set_option maxRecDepth 100000 in
theorem lin_r20 : ∀ w ∈ wsL_law_r20, w ∈ lw_tbl := in_r _ [679, 15, 680, 681, 682, 683, 692, 694, 18, 695, 696, 698, 19, 699, 700, 701, 702, 437, 438, 439, 440, 441, 442, 443] rfl
set_option maxRecDepth 100000 in
theorem lin_r21 : ∀ w ∈ wsL_law_r21, w ∈ lw_tbl := in_r _ [444, 445, 446, 447, 448, 449, 450, 451, 452, 453, 454, 455, 456, 476, 477, 478, 457, 458, 459, 460, 461, 462, 463, 464] rfl
set_option maxRecDepth 100000 in
theorem lin_r22 : ∀ w ∈ wsL_law_r22, w ∈ lw_tbl := in_r _ [465, 466, 467, 468, 469, 470, 471, 472, 474, 5, 475, 774, 775, 776, 777, 778, 780, 27, 781, 782, 784, 28, 785, 786] rfl
set_option maxRecDepth 100000 in
theorem lin_r23 : ∀ w ∈ wsL_law_r23, w ∈ lw_tbl := in_r _ [788, 29, 789, 790, 792, 30, 793, 794, 796, 31, 797, 798, 800, 32, 801, 802, 803, 804, 805, 807, 33, 808, 809, 810] rfl
set_option maxRecDepth 100000 in
theorem lin_r24 : ∀ w ∈ wsL_law_r24, w ∈ lw_tbl := in_r _ [811, 479, 480, 481, 482, 483, 484, 485, 486, 487, 488, 812, 813, 814, 815, 489, 490, 491, 492, 493, 494, 495, 496, 816] rfl
set_option maxRecDepth 100000 in
theorem lin_r25 : ∀ w ∈ wsL_law_r25, w ∈ lw_tbl := in_r _ [817, 818, 819, 497, 498, 499, 500, 501, 820, 821, 822, 823, 618, 502, 503, 504, 505, 824, 825, 826, 827, 506, 507, 508] rfl
set_option maxRecDepth 100000 in
theorem lin_r26 : ∀ w ∈ wsL_law_r26, w ∈ lw_tbl := in_r _ [509, 510, 511, 512, 513, 514, 515, 517, 6, 518, 519, 520, 521, 522, 523, 524, 525, 526, 828, 829, 830, 831, 527, 528] rfl
set_option maxRecDepth 100000 in
theorem lin_r27 : ∀ w ∈ wsL_law_r27, w ∈ lw_tbl := in_r _ [529, 530, 531, 532, 533, 534, 535, 536, 537, 538, 539, 540, 541, 542, 543, 544, 545, 546, 547, 548, 550, 7, 551, 832] rfl
set_option maxRecDepth 100000 in
theorem lin_r28 : ∀ w ∈ wsL_law_r28, w ∈ lw_tbl := in_r _ [833, 834, 835, 552, 553, 554, 555, 556, 557, 558, 559, 560, 836, 837, 838, 839, 561, 562, 563, 564, 636, 565, 566, 567] rfl
set_option maxRecDepth 100000 in
theorem lin_r29 : ∀ w ∈ wsL_law_r29, w ∈ lw_tbl := in_r _ [568, 569, 570, 840, 841, 842, 843, 571, 572, 573, 574, 844, 845, 846, 847, 575, 576, 577, 578, 579, 848, 849, 850, 851] rfl
set_option maxRecDepth 100000 in
theorem lin_r30 : ∀ w ∈ wsL_law_r30, w ∈ lw_tbl := in_r _ [580, 581, 582, 583, 852, 853, 854, 855, 584, 585, 586, 587, 856, 857, 858, 859, 588, 589, 590, 591, 592, 593, 594, 595] rfl
set_option maxRecDepth 100000 in
theorem lin_r31 : ∀ w ∈ wsL_law_r31, w ∈ lw_tbl := in_r _ [596, 597, 598, 599, 600, 601, 860, 861, 862, 863, 602, 603, 604, 605, 606, 607, 864, 865, 866, 867] rfl
set_option maxRecDepth 100000 in
theorem lin_X6 : ∀ w ∈ wsX60, w ∈ lw_tbl := by decide +kernel
set_option maxRecDepth 100000 in
theorem lin_X7 : ∀ w ∈ wsX70, w ∈ lw_tbl := by decide +kernel
set_option maxRecDepth 100000 in
theorem lin_X4 : ∀ w ∈ wsX40, w ∈ lw_tbl := by decide +kernel
set_option maxRecDepth 100000 in
theorem lin_X0 : ∀ w ∈ wsX00, w ∈ lw_tbl := by decide +kernel
set_option maxRecDepth 100000 in
theorem lin_X5 : ∀ w ∈ wsX50, w ∈ lw_tbl := by decide +kernel
set_option maxRecDepth 100000 in
theorem lin_X1 : ∀ w ∈ wsX10, w ∈ lw_tbl := by decide +kernel
set_option maxRecDepth 100000 in
theorem lin_X2 : ∀ w ∈ wsX20, w ∈ lw_tbl := by decide +kernel
theorem wsL_law_in : ∀ w ∈ wsL_law, w ∈ lw_tbl := List.forall_mem_append.mpr ⟨List.forall_mem_append.mpr ⟨List.forall_mem_append.mpr ⟨List.forall_mem_append.mpr ⟨List.forall_mem_append.mpr ⟨List.forall_mem_append.mpr ⟨List.forall_mem_append.mpr ⟨List.forall_mem_append.mpr ⟨List.forall_mem_append.mpr ⟨lin_r1, List.forall_mem_append.mpr ⟨lin_r2, List.forall_mem_append.mpr ⟨lin_r3, List.forall_mem_append.mpr ⟨lin_r4, List.forall_mem_append.mpr ⟨lin_r5, List.forall_mem_append.mpr ⟨lin_r6, List.forall_mem_append.mpr ⟨lin_r7, List.forall_mem_append.mpr ⟨lin_r8, List.forall_mem_append.mpr ⟨lin_r9, List.forall_mem_append.mpr ⟨lin_r10, List.forall_mem_append.mpr ⟨lin_r11, List.forall_mem_append.mpr ⟨lin_r12, List.forall_mem_append.mpr ⟨lin_r13, List.forall_mem_append.mpr ⟨lin_r14, List.forall_mem_append.mpr ⟨lin_r15, List.forall_mem_append.mpr ⟨lin_r16, List.forall_mem_append.mpr ⟨lin_r17, List.forall_mem_append.mpr ⟨lin_r18, List.forall_mem_append.mpr ⟨lin_r19, List.forall_mem_append.mpr ⟨lin_r20, List.forall_mem_append.mpr ⟨lin_r21, List.forall_mem_append.mpr ⟨lin_r22, List.forall_mem_append.mpr ⟨lin_r23, List.forall_mem_append.mpr ⟨lin_r24, List.forall_mem_append.mpr ⟨lin_r25, List.forall_mem_append.mpr ⟨lin_r26, List.forall_mem_append.mpr ⟨lin_r27, List.forall_mem_append.mpr ⟨lin_r28, List.forall_mem_append.mpr ⟨lin_r29, List.forall_mem_append.mpr ⟨lin_r30, lin_r31⟩⟩⟩⟩⟩⟩⟩⟩⟩⟩⟩⟩⟩⟩⟩⟩⟩⟩⟩⟩⟩⟩⟩⟩⟩⟩⟩⟩⟩⟩, lin_X6⟩, lin_X7⟩, lin_X4⟩, lin_X0⟩, lin_X5⟩, lin_X1⟩, lin_X2⟩, fun _ h => absurd h List.not_mem_nil⟩
