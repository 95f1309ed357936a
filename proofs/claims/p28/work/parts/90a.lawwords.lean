/-! ===== the law's words are the tables' (laid by wip/p28/lawin28.py) ===== -/
theorem in_r {big : List Cond} (ws : List Cond) (ps : List Nat) (hp : ws = ps.filterMap (fun i => big[i]?)) : ∀ w ∈ ws, w ∈ big := by
  intro w hw
  rw [hp] at hw
  obtain ⟨i, -, hi⟩ := List.mem_filterMap.mp hw
  exact List.mem_of_getElem? hi
set_option maxRecDepth 100000 in
theorem lin_r1 : ∀ w ∈ wsL_law_r1, w ∈ lw_tbl := in_r _ [19, 20, 9, 21, 22, 23, 24, 25, 26, 27, 28, 10, 146, 147, 112, 113, 13, 148, 132, 133, 14, 149, 150, 30] rfl
set_option maxRecDepth 100000 in
theorem lin_r2 : ∀ w ∈ wsL_law_r2, w ∈ lw_tbl := in_r _ [31, 32, 33, 34, 11, 73, 53, 54, 12, 75, 77, 79, 81, 83, 85, 86, 87, 89, 36, 37, 38, 51, 39, 52] rfl
set_option maxRecDepth 100000 in
theorem lin_r3 : ∀ w ∈ wsL_law_r3, w ∈ lw_tbl := in_r _ [40, 41, 56, 57, 58, 59, 60, 61, 62, 114, 115, 116, 117, 118, 121, 122, 123, 135, 136, 137, 138, 139, 358, 359] rfl
set_option maxRecDepth 100000 in
theorem lin_r4 : ∀ w ∈ wsL_law_r4, w ∈ lw_tbl := in_r _ [360, 361, 362, 363, 364, 365, 191, 193, 0, 194, 195, 196, 197, 198, 199, 200, 201, 202, 203, 205, 204, 15, 206, 207] rfl
set_option maxRecDepth 100000 in
theorem lin_r5 : ∀ w ∈ wsL_law_r5, w ∈ lw_tbl := in_r _ [208, 209, 210, 366, 367, 368, 369, 187, 188, 189, 190, 370, 162, 163, 164, 165, 166, 167, 168, 169, 170, 171, 172, 173] rfl
set_option maxRecDepth 100000 in
theorem lin_r6 : ∀ w ∈ wsL_law_r6, w ∈ lw_tbl := in_r _ [174, 175, 176, 177, 178, 16, 179, 180, 181, 182, 183, 184, 185, 186, 211, 213, 1, 214, 215, 216, 217, 218, 219, 220] rfl
set_option maxRecDepth 100000 in
theorem lin_r7 : ∀ w ∈ wsL_law_r7, w ∈ lw_tbl := in_r _ [221, 222, 223, 224, 225, 226, 227, 384, 385, 386, 387, 233, 234, 235, 236, 237, 238, 239, 240, 241, 242, 243, 244, 279] rfl
set_option maxRecDepth 100000 in
theorem lin_r8 : ∀ w ∈ wsL_law_r8, w ∈ lw_tbl := in_r _ [280, 17, 281, 245, 246, 247, 248, 249, 250, 251, 252, 253, 254, 255, 256, 257, 258, 259, 260, 261, 262, 263, 264, 265] rfl
set_option maxRecDepth 100000 in
theorem lin_r9 : ∀ w ∈ wsL_law_r9, w ∈ lw_tbl := in_r _ [266, 267, 268, 269, 270, 271, 272, 273, 274, 275, 276, 277, 278, 282, 283, 284, 285, 286, 287, 288, 289, 290, 291, 292] rfl
set_option maxRecDepth 100000 in
theorem lin_r10 : ∀ w ∈ wsL_law_r10, w ∈ lw_tbl := in_r _ [293, 294, 17, 295, 296, 297, 298, 299, 388, 389, 390, 391, 392, 393, 342, 343, 344, 345, 346, 347, 348, 349, 350, 309] rfl
set_option maxRecDepth 100000 in
theorem lin_r11 : ∀ w ∈ wsL_law_r11, w ∈ lw_tbl := in_r _ [310, 311, 351, 301, 302, 303, 304, 305, 306, 307, 312, 313, 314, 315, 352, 353, 18, 354, 355, 356, 357, 228, 229, 230] rfl
set_option maxRecDepth 100000 in
theorem lin_r12 : ∀ w ∈ wsL_law_r12, w ∈ lw_tbl := in_r _ [231, 232, 300, 308, 316, 317, 318, 319, 339, 340, 341, 320, 321, 322, 323, 324, 325, 326, 327, 328, 329, 330, 331, 332] rfl
set_option maxRecDepth 100000 in
theorem lin_r13 : ∀ w ∈ wsL_law_r13, w ∈ lw_tbl := in_r _ [333, 334, 335, 337, 2, 338, 371, 372, 373, 374, 375, 376, 377, 378, 379, 380, 381, 382, 383, 404, 405, 8, 406, 407] rfl
set_option maxRecDepth 100000 in
theorem lin_r14 : ∀ w ∈ wsL_law_r14, w ∈ lw_tbl := in_r _ [408, 409, 410, 411, 394, 395, 396, 397, 398, 399, 400, 401, 402, 403, 412, 413, 414, 415, 416, 433, 452, 417, 418, 419] rfl
set_option maxRecDepth 100000 in
theorem lin_r15 : ∀ w ∈ wsL_law_r15, w ∈ lw_tbl := in_r _ [420, 421, 422, 423, 424, 425, 427, 3, 428, 429, 430, 431, 432, 434, 435, 436, 437, 438, 439, 440, 441, 442, 443, 444] rfl
set_option maxRecDepth 100000 in
theorem lin_r16 : ∀ w ∈ wsL_law_r16, w ∈ lw_tbl := in_r _ [445, 446, 447, 448, 449, 450, 451, 523, 524, 525, 526, 527, 528, 529, 504, 505, 506, 530, 531, 532, 533, 534, 535, 536] rfl
set_option maxRecDepth 100000 in
theorem lin_r17 : ∀ w ∈ wsL_law_r17, w ∈ lw_tbl := in_r _ [537, 538, 539, 540, 541, 542, 543, 544, 545, 546, 481, 482, 483, 484, 485, 486, 487, 488, 489, 490, 491, 492, 493, 456] rfl
set_option maxRecDepth 100000 in
theorem lin_r18 : ∀ w ∈ wsL_law_r18, w ∈ lw_tbl := in_r _ [457, 458, 459, 460, 461, 462, 463, 464, 465, 466, 467, 468, 469, 470, 471, 472, 473, 474, 475, 476, 477, 479, 4, 480] rfl
set_option maxRecDepth 100000 in
theorem lin_r19 : ∀ w ∈ wsL_law_r19, w ∈ lw_tbl := in_r _ [547, 548, 549, 550, 551, 552, 553, 554, 555, 557, 5, 558, 559, 560, 561, 562, 563, 564, 565, 566, 567, 568, 570, 6] rfl
set_option maxRecDepth 100000 in
theorem lin_r20 : ∀ w ∈ wsL_law_r20, w ∈ lw_tbl := in_r _ [571, 572, 574, 7, 575, 576, 577, 578, 579, 580, 581, 582, 583, 584, 585, 586, 587, 588, 589, 590, 591, 592, 593, 594] rfl
set_option maxRecDepth 100000 in
theorem lin_r21 : ∀ w ∈ wsL_law_r21, w ∈ lw_tbl := in_r _ [595, 596, 597, 598, 599, 600, 601, 602, 603, 604, 605, 606, 607, 608, 609, 610, 611, 612, 613, 614, 615, 616, 617, 618] rfl
set_option maxRecDepth 100000 in
theorem lin_r22 : ∀ w ∈ wsL_law_r22, w ∈ lw_tbl := in_r _ [497, 498, 499, 500, 501, 502, 503, 507, 508, 509, 510, 511, 512, 513, 514, 515, 516, 517, 518, 519, 453, 454, 455, 494] rfl
set_option maxRecDepth 100000 in
theorem lin_r23 : ∀ w ∈ wsL_law_r23, w ∈ lw_tbl := in_r _ [495, 496, 520, 521, 522] rfl
set_option maxRecDepth 100000 in
theorem lin_X6 : ∀ w ∈ wsX60, w ∈ lw_tbl := by decide +kernel
set_option maxRecDepth 100000 in
theorem lin_X4 : ∀ w ∈ wsX40, w ∈ lw_tbl := by decide +kernel
set_option maxRecDepth 100000 in
theorem lin_X0 : ∀ w ∈ wsX00, w ∈ lw_tbl := by decide +kernel
set_option maxRecDepth 100000 in
theorem lin_X5 : ∀ w ∈ wsX50, w ∈ lw_tbl := by decide +kernel
set_option maxRecDepth 100000 in
theorem lin_X1 : ∀ w ∈ wsX10, w ∈ lw_tbl := by decide +kernel
set_option maxRecDepth 100000 in
theorem lin_X2 : ∀ w ∈ wsX20, w ∈ lw_tbl := by decide +kernel
theorem wsL_law_in : ∀ w ∈ wsL_law, w ∈ lw_tbl := List.forall_mem_append.mpr ⟨List.forall_mem_append.mpr ⟨List.forall_mem_append.mpr ⟨List.forall_mem_append.mpr ⟨List.forall_mem_append.mpr ⟨List.forall_mem_append.mpr ⟨List.forall_mem_append.mpr ⟨List.forall_mem_append.mpr ⟨lin_r1, List.forall_mem_append.mpr ⟨lin_r2, List.forall_mem_append.mpr ⟨lin_r3, List.forall_mem_append.mpr ⟨lin_r4, List.forall_mem_append.mpr ⟨lin_r5, List.forall_mem_append.mpr ⟨lin_r6, List.forall_mem_append.mpr ⟨lin_r7, List.forall_mem_append.mpr ⟨lin_r8, List.forall_mem_append.mpr ⟨lin_r9, List.forall_mem_append.mpr ⟨lin_r10, List.forall_mem_append.mpr ⟨lin_r11, List.forall_mem_append.mpr ⟨lin_r12, List.forall_mem_append.mpr ⟨lin_r13, List.forall_mem_append.mpr ⟨lin_r14, List.forall_mem_append.mpr ⟨lin_r15, List.forall_mem_append.mpr ⟨lin_r16, List.forall_mem_append.mpr ⟨lin_r17, List.forall_mem_append.mpr ⟨lin_r18, List.forall_mem_append.mpr ⟨lin_r19, List.forall_mem_append.mpr ⟨lin_r20, List.forall_mem_append.mpr ⟨lin_r21, List.forall_mem_append.mpr ⟨lin_r22, lin_r23⟩⟩⟩⟩⟩⟩⟩⟩⟩⟩⟩⟩⟩⟩⟩⟩⟩⟩⟩⟩⟩⟩, lin_X6⟩, lin_X4⟩, lin_X0⟩, lin_X5⟩, lin_X1⟩, lin_X2⟩, fun _ h => absurd h List.not_mem_nil⟩
set_option maxRecDepth 100000 in
theorem lin_nw : ∀ w ∈ nw, w ∈ lw_tbl := in_r _ [74, 43, 124, 78, 80, 88, 90, 63, 82, 84, 76, 140, 42] rfl
set_option maxRecDepth 100000 in
theorem lin_nm : ∀ w ∈ nmw, w ∈ lw_tbl := in_r _ [29, 35, 55, 120, 134] rfl
set_option maxRecDepth 100000 in
theorem lin_ao : (Cond.arrayOver (.object "NamePlate$State")) ∈ lw_tbl := List.mem_of_getElem? (i := 119) rfl
theorem on_nw : ∀ w ∈ nw, w.onTables = true := by decide +kernel
theorem on_nm : ∀ w ∈ nmw, w.onTables = true := by decide +kernel
