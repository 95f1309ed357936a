/-! ===== what the law's calls ask is among the law's words ===== -/
set_option maxRecDepth 100000 in
theorem ggL_law_X6_init : GoodIn wsL_law wsX6_init := goodIn_r _ [8, 9, 10, 11, 12, 13, 14, 15, 16, 17, 18, 19, 20, 21, 22, 23, 24, 25, 26, 27, 28, 29, 30, 31, 32, 33, 34, 35, 36, 37, 38, 39, 40, 41, 42, 43, 44, 45, 46, 47, 48, 49, 50, 51, 52, 53, 54, 55, 56, 57, 58, 59, 60, 61, 62, 63, 64, 65, 66, 67, 68, 69, 70, 71, 72, 752, 753, 754, 755, 756, 757, 758, 759, 760, 761, 740, 741, 742, 743, 744, 762, 763, 764, 765, 766, 767, 768, 769, 770, 771, 772, 773] rfl (by decide +kernel)
set_option maxRecDepth 100000 in
theorem gL_law_X6_init : GoodIn wsL_law (wsX6_init) := ggL_law_X6_init
set_option maxRecDepth 100000 in
theorem ggL_law_X7_init : GoodIn wsL_law wsX7_init := goodIn_r _ [75, 76, 10, 11, 50, 77, 78, 79, 48, 80, 745, 746, 747, 748, 749, 750, 751] rfl (by decide +kernel)
set_option maxRecDepth 100000 in
theorem gL_law_X7_init : GoodIn wsL_law (wsX7_init) := ggL_law_X7_init
set_option maxRecDepth 100000 in
theorem ggL_law_X6_recut : GoodIn wsL_law wsX6_recut := goodIn_r _ [84, 20, 15, 85, 86, 2, 87, 88, 89, 90, 19, 91, 67, 66, 92, 93, 94, 95, 65, 96, 97, 98, 14, 99, 32, 36, 37, 38, 39, 40, 41, 42, 43, 44, 100, 101, 102, 31, 103, 49, 104, 105, 106, 107, 51, 52, 108, 109, 110, 35, 111, 56, 112, 57, 58, 59, 113, 114, 115, 116, 117, 118, 119, 120, 121, 122, 123, 124, 125, 126, 127, 740, 741, 742, 743, 744, 762, 763, 764, 752, 753, 754, 755, 756, 757, 758, 759, 760, 761, 767, 768, 769, 770, 771, 772, 773] rfl (by decide +kernel)
set_option maxRecDepth 100000 in
theorem gL_law_X6_recut : GoodIn wsL_law (wsV RL 13 RX6 yX6_recut wsX6_recut) := goodIn_app (goodIn_of _ (by decide +kernel)) ggL_law_X6_recut
set_option maxRecDepth 100000 in
theorem ggL_law_X7_recut : GoodIn wsL_law wsX7_recut := goodIn_r _ [131, 77, 132, 133, 5, 134, 135, 136, 137, 138, 139, 78, 140, 141, 142, 143, 144, 145, 146, 147, 745, 746, 747, 748, 749, 750, 751] rfl (by decide +kernel)
set_option maxRecDepth 100000 in
theorem gL_law_X7_recut : GoodIn wsL_law (wsV RL 17 RX7 yX7_recut wsX7_recut) := goodIn_app (goodIn_of _ (by decide +kernel)) ggL_law_X7_recut
set_option maxRecDepth 100000 in
theorem ggL_law_X6_setMargin : GoodIn wsL_law wsX6_setMargin := goodIn_r _ [151, 15, 20, 152, 153, 154, 14, 155, 41, 88, 89, 90, 19, 91, 67, 66, 92, 93, 94, 95, 65, 96, 97, 98, 99, 32, 36, 37, 38, 39, 40, 42, 43, 44, 100, 101, 102, 31, 103, 49, 104, 105, 106, 107, 51, 52, 108, 109, 110, 35, 111, 56, 112, 57, 58, 59, 740, 741, 742, 743, 744, 752, 753, 754, 755, 756, 757, 758, 759, 760, 761, 762, 763, 764, 767, 768, 769, 770, 771, 772, 773] rfl (by decide +kernel)
set_option maxRecDepth 100000 in
theorem gL_law_X6_setMargin : GoodIn wsL_law (wsV RL 18 RX6 yX6_setMargin wsX6_setMargin) := goodIn_app (goodIn_of _ (by decide +kernel)) ggL_law_X6_setMargin
set_option maxRecDepth 100000 in
theorem ggL_law_X7_setMargin : GoodIn wsL_law wsX7_setMargin := goodIn_r _ [159, 132, 133, 5, 134, 160, 161, 162, 163, 77, 140, 141, 142, 143, 144, 145, 146, 147, 135, 136, 137, 138, 139, 78, 745, 746, 747, 748, 749, 750, 751] rfl (by decide +kernel)
set_option maxRecDepth 100000 in
theorem gL_law_X7_setMargin : GoodIn wsL_law (wsV RL 22 RX7 yX7_setMargin wsX7_setMargin) := goodIn_app (goodIn_of _ (by decide +kernel)) ggL_law_X7_setMargin
set_option maxRecDepth 100000 in
theorem ggL_law_X6_setColumns : GoodIn wsL_law wsX6_setColumns := goodIn_r _ [167, 15, 20, 152, 153, 154, 14, 155, 41, 88, 89, 90, 19, 91, 67, 66, 92, 93, 94, 95, 65, 96, 97, 98, 99, 32, 36, 37, 38, 39, 40, 42, 43, 44, 100, 101, 102, 31, 103, 49, 104, 105, 106, 107, 51, 52, 108, 109, 110, 35, 111, 56, 112, 57, 58, 59, 740, 741, 742, 743, 744, 752, 753, 754, 755, 756, 757, 758, 759, 760, 761, 762, 763, 764, 767, 768, 769, 770, 771, 772, 773] rfl (by decide +kernel)
set_option maxRecDepth 100000 in
theorem gL_law_X6_setColumns : GoodIn wsL_law (wsV RL 23 RX6 yX6_setColumns wsX6_setColumns) := goodIn_app (goodIn_of _ (by decide +kernel)) ggL_law_X6_setColumns
set_option maxRecDepth 100000 in
theorem ggL_law_X7_setColumns : GoodIn wsL_law wsX7_setColumns := goodIn_r _ [171, 132, 133, 5, 134, 160, 161, 162, 163, 77, 140, 141, 142, 143, 144, 145, 146, 147, 135, 136, 137, 138, 139, 78, 745, 746, 747, 748, 749, 750, 751] rfl (by decide +kernel)
set_option maxRecDepth 100000 in
theorem gL_law_X7_setColumns : GoodIn wsL_law (wsV RL 26 RX7 yX7_setColumns wsX7_setColumns) := goodIn_app (goodIn_of _ (by decide +kernel)) ggL_law_X7_setColumns
set_option maxRecDepth 100000 in
theorem ggL_law_X6_adjust : GoodIn wsL_law wsX6_adjust := goodIn_r _ [175, 15, 20, 176, 177, 178, 179, 180, 181, 182, 183, 184, 185, 186, 187, 188, 14, 189, 32, 190, 191, 192, 193, 41, 194, 195, 196, 197, 198, 199, 200, 31, 201, 51, 202, 203, 204, 205, 49, 206, 207, 208, 209, 36, 210, 211, 212, 35, 213, 59, 56, 57, 214, 215, 216, 217, 58, 218, 219, 220, 221, 88, 89, 90, 19, 91, 67, 66, 92, 93, 94, 95, 65, 96, 97, 98, 99, 37, 38, 39, 40, 42, 43, 44, 100, 101, 102, 103, 104, 105, 106, 107, 52, 108, 109, 110, 111, 112, 222, 223, 224, 225, 226, 227, 228, 229, 230, 231, 232, 233, 234, 235, 236, 237, 238, 740, 741, 742, 743, 744, 752, 753, 754, 755, 756, 757, 758, 759, 760, 761, 767, 768, 769, 770, 771, 772, 773, 762, 763, 764] rfl (by decide +kernel)
set_option maxRecDepth 100000 in
theorem gL_law_X6_adjust : GoodIn wsL_law (wsV RL 27 RX6 yX6_adjust wsX6_adjust) := goodIn_app (goodIn_of _ (by decide +kernel)) ggL_law_X6_adjust
set_option maxRecDepth 100000 in
theorem ggL_law_X7_adjust : GoodIn wsL_law wsX7_adjust := goodIn_r _ [242, 77, 243, 244, 5, 245, 246, 247, 248, 132, 133, 134, 249, 250, 251, 252, 253, 254, 255, 144, 145, 146, 147, 256, 257, 258, 259, 260, 261, 262, 263, 264, 265, 266, 267, 268, 269, 270, 271, 135, 136, 137, 138, 139, 78, 745, 746, 747, 748, 749, 750, 751] rfl (by decide +kernel)
set_option maxRecDepth 100000 in
theorem gL_law_X7_adjust : GoodIn wsL_law (wsV RL 31 RX7 yX7_adjust wsX7_adjust) := goodIn_app (goodIn_of _ (by decide +kernel)) ggL_law_X7_adjust
set_option maxRecDepth 100000 in
theorem ggL_law_X6_type : GoodIn wsL_law wsX6_type := goodIn_r _ [275, 24, 276, 277, 278, 23, 279, 72, 280, 281, 282, 283, 71, 740, 741, 742, 743, 744, 765, 766] rfl (by decide +kernel)
set_option maxRecDepth 100000 in
theorem gL_law_X6_type : GoodIn wsL_law (wsV RL 32 RX6 yX6_type wsX6_type) := goodIn_app (goodIn_of _ (by decide +kernel)) ggL_law_X6_type
set_option maxRecDepth 100000 in
theorem ggL_law_X7_type : GoodIn wsL_law wsX7_type := goodIn_r _ [287, 288, 80, 745, 746, 747, 748, 749, 750, 751] rfl (by decide +kernel)
set_option maxRecDepth 100000 in
theorem gL_law_X7_type : GoodIn wsL_law (wsV RL 36 RX7 yX7_type wsX7_type) := goodIn_app (goodIn_of _ (by decide +kernel)) ggL_law_X7_type
set_option maxRecDepth 100000 in
theorem ggL_law_X6_clearText : GoodIn wsL_law wsX6_clearText := goodIn_r _ [292, 24, 740, 741, 742, 743, 744, 765, 766] rfl (by decide +kernel)
set_option maxRecDepth 100000 in
theorem gL_law_X6_clearText : GoodIn wsL_law (wsV RL 37 RX6 yX6_clearText wsX6_clearText) := goodIn_app (goodIn_of _ (by decide +kernel)) ggL_law_X6_clearText
set_option maxRecDepth 100000 in
theorem ggL_law_X7_clearText : GoodIn wsL_law wsX7_clearText := goodIn_r _ [296, 288, 745, 746, 747, 748, 749, 750, 751] rfl (by decide +kernel)
set_option maxRecDepth 100000 in
theorem gL_law_X7_clearText : GoodIn wsL_law (wsV RL 41 RX7 yX7_clearText wsX7_clearText) := goodIn_app (goodIn_of _ (by decide +kernel)) ggL_law_X7_clearText
set_option maxRecDepth 100000 in
theorem ggL_law_X6_readNames : GoodIn wsL_law wsX6_readNames := goodIn_r _ [300, 24, 15, 20, 301, 302, 303, 23, 304, 72, 305, 306, 307, 308, 71, 309, 310, 311, 312, 181, 178, 182, 313, 184, 185, 314, 315, 316, 317, 88, 89, 90, 19, 91, 67, 66, 92, 93, 94, 95, 65, 96, 97, 98, 14, 99, 32, 36, 37, 38, 39, 40, 41, 42, 43, 44, 100, 101, 102, 31, 103, 49, 104, 105, 106, 107, 51, 52, 108, 109, 110, 35, 111, 56, 112, 57, 58, 59, 318, 319, 320, 2, 321, 322, 323, 324, 325, 326, 327, 328, 329, 330, 331, 332, 333, 334, 740, 741, 742, 743, 744, 752, 753, 754, 755, 756, 757, 758, 759, 760, 761, 767, 768, 769, 765, 766, 762, 763, 764, 770, 771, 772, 773] rfl (by decide +kernel)
set_option maxRecDepth 100000 in
theorem gL_law_X6_readNames : GoodIn wsL_law (wsV RL 42 RX6 yX6_readNames wsX6_readNames) := goodIn_app (goodIn_of _ (by decide +kernel)) ggL_law_X6_readNames
set_option maxRecDepth 100000 in
theorem ggL_law_X7_readNames : GoodIn wsL_law wsX7_readNames := goodIn_r _ [338, 77, 288, 80, 339, 340, 341, 5, 342, 246, 247, 248, 132, 133, 134, 249, 250, 251, 343, 344, 345, 346, 135, 136, 137, 138, 139, 78, 745, 746, 747, 748, 749, 750, 751] rfl (by decide +kernel)
set_option maxRecDepth 100000 in
theorem gL_law_X7_readNames : GoodIn wsL_law (wsV RL 45 RX7 yX7_readNames wsX7_readNames) := goodIn_app (goodIn_of _ (by decide +kernel)) ggL_law_X7_readNames
set_option maxRecDepth 100000 in
theorem ggL_law_X6_remove : GoodIn wsL_law wsX6_remove := goodIn_r _ [350, 15, 20, 351, 332, 333, 31, 334, 52, 352, 353, 354, 14, 355, 41, 88, 89, 90, 19, 91, 67, 66, 92, 93, 94, 95, 65, 96, 97, 98, 99, 32, 36, 37, 38, 39, 40, 42, 43, 44, 100, 101, 102, 103, 49, 104, 105, 106, 107, 51, 108, 109, 110, 35, 111, 56, 112, 57, 58, 59, 356, 357, 358, 359, 331, 360, 361, 362, 363, 740, 741, 742, 743, 744, 752, 753, 754, 755, 756, 757, 758, 759, 760, 761, 767, 768, 769, 762, 763, 764, 770, 771, 772, 773] rfl (by decide +kernel)
set_option maxRecDepth 100000 in
theorem gL_law_X6_remove : GoodIn wsL_law (wsV RL 46 RX6 yX6_remove wsX6_remove) := goodIn_app (goodIn_of _ (by decide +kernel)) ggL_law_X6_remove
set_option maxRecDepth 100000 in
theorem ggL_law_X7_remove : GoodIn wsL_law wsX7_remove := goodIn_r _ [367, 77, 368, 369, 370, 5, 371, 132, 133, 134, 256, 257, 258, 259, 144, 145, 146, 147, 135, 136, 137, 138, 139, 78, 745, 746, 747, 748, 749, 750, 751] rfl (by decide +kernel)
set_option maxRecDepth 100000 in
theorem gL_law_X7_remove : GoodIn wsL_law (wsV RL 49 RX7 yX7_remove wsX7_remove) := goodIn_app (goodIn_of _ (by decide +kernel)) ggL_law_X7_remove
set_option maxRecDepth 100000 in
theorem ggL_law_X6_swap : GoodIn wsL_law wsX6_swap := goodIn_r _ [375, 15, 20, 351, 332, 333, 31, 334, 52, 376, 191, 192, 14, 193, 41, 88, 89, 90, 19, 91, 67, 66, 92, 93, 94, 95, 65, 96, 97, 98, 99, 32, 36, 37, 38, 39, 40, 42, 43, 44, 100, 101, 102, 103, 49, 104, 105, 106, 107, 51, 108, 109, 110, 35, 111, 56, 112, 57, 58, 59, 377, 361, 362, 363, 331, 378, 379, 380, 381, 382, 153, 154, 155, 383, 384, 385, 386, 387, 388, 389, 390, 391, 392, 393, 394, 198, 199, 200, 201, 395, 396, 397, 398, 202, 203, 204, 205, 399, 400, 178, 401, 402, 403, 404, 405, 210, 211, 212, 213, 214, 215, 216, 217, 406, 407, 408, 409, 410, 411, 412, 413, 414, 415, 416, 417, 418, 419, 420, 421, 422, 423, 424, 425, 426, 427, 740, 741, 742, 743, 744, 752, 753, 754, 755, 756, 757, 758, 759, 760, 761, 767, 768, 769, 762, 763, 764, 770, 771, 772, 773] rfl (by decide +kernel)
set_option maxRecDepth 100000 in
theorem gL_law_X6_swap : GoodIn wsL_law (wsV RL 50 RX6 yX6_swap wsX6_swap) := goodIn_app (goodIn_of _ (by decide +kernel)) ggL_law_X6_swap
set_option maxRecDepth 100000 in
theorem ggL_law_X7_swap : GoodIn wsL_law wsX7_swap := goodIn_r _ [431, 77, 368, 369, 370, 5, 371, 132, 133, 134, 256, 257, 258, 259, 144, 145, 146, 147, 135, 136, 137, 138, 139, 78, 432, 433, 434, 435, 140, 141, 142, 143, 436, 437, 438, 439, 440, 441, 442, 443, 444, 445, 446, 447, 448, 449, 450, 451, 260, 261, 262, 263, 452, 453, 454, 246, 247, 248, 455, 456, 457, 458, 459, 460, 461, 264, 265, 266, 267, 268, 269, 270, 271, 462, 463, 464, 465, 466, 467, 468, 469, 470, 471, 472, 745, 746, 747, 748, 749, 750, 751] rfl (by decide +kernel)
set_option maxRecDepth 100000 in
theorem gL_law_X7_swap : GoodIn wsL_law (wsV RL 53 RX7 yX7_swap wsX7_swap) := goodIn_app (goodIn_of _ (by decide +kernel)) ggL_law_X7_swap
set_option maxRecDepth 100000 in
theorem ggL_law_X6_engrave : GoodIn wsL_law wsX6_engrave := goodIn_r _ [476, 15, 20, 351, 332, 333, 31, 334, 52, 378, 379, 380, 14, 381, 42, 37, 38, 32, 382, 153, 154, 155, 41, 383, 384, 385, 386, 387, 388, 389, 390, 391, 392, 393, 394, 198, 199, 200, 201, 51, 395, 396, 397, 398, 202, 203, 204, 205, 49, 399, 400, 178, 401, 402, 403, 404, 405, 36, 210, 211, 212, 35, 213, 59, 56, 57, 214, 215, 216, 217, 58, 406, 407, 408, 409, 410, 411, 412, 39, 413, 414, 415, 416, 40, 417, 418, 419, 420, 421, 422, 423, 424, 425, 426, 427, 477, 478, 479, 480, 481, 482, 483, 484, 376, 191, 192, 193, 88, 89, 90, 19, 91, 67, 66, 92, 93, 94, 95, 65, 96, 97, 98, 99, 43, 44, 100, 101, 102, 103, 104, 105, 106, 107, 108, 109, 110, 111, 112, 485, 486, 487, 488, 489, 490, 491, 492, 493, 494, 495, 496, 497, 498, 499, 500, 501, 502, 503, 504, 505, 506, 507, 508, 509, 510, 511, 512, 513, 514, 740, 741, 742, 743, 744, 752, 753, 754, 755, 756, 757, 758, 759, 760, 761, 767, 768, 769, 770, 771, 772, 773, 762, 763, 764] rfl (by decide +kernel)
set_option maxRecDepth 100000 in
theorem gL_law_X6_engrave : GoodIn wsL_law (wsV RL 54 RX6 yX6_engrave wsX6_engrave) := goodIn_app (goodIn_of _ (by decide +kernel)) ggL_law_X6_engrave
set_option maxRecDepth 100000 in
theorem ggL_law_X7_engrave : GoodIn wsL_law wsX7_engrave := goodIn_r _ [518, 368, 369, 370, 5, 371, 77, 132, 133, 134, 432, 433, 434, 435, 140, 141, 142, 143, 144, 145, 146, 147, 436, 437, 438, 439, 440, 441, 442, 443, 444, 445, 446, 447, 448, 449, 450, 451, 260, 261, 262, 263, 452, 453, 454, 246, 247, 248, 455, 456, 457, 458, 459, 460, 461, 264, 265, 266, 267, 268, 269, 270, 271, 462, 463, 464, 465, 466, 467, 468, 469, 470, 471, 472, 519, 520, 521, 522, 523, 524, 525, 526, 527, 528, 529, 530, 256, 257, 258, 259, 135, 136, 137, 138, 139, 78, 531, 532, 533, 534, 535, 536, 537, 538, 539, 540, 541, 542, 543, 544, 545, 546, 547, 548, 549, 550, 551, 552, 745, 746, 747, 748, 749, 750, 751] rfl (by decide +kernel)
set_option maxRecDepth 100000 in
theorem gL_law_X7_engrave : GoodIn wsL_law (wsV RL 57 RX7 yX7_engrave wsX7_engrave) := goodIn_app (goodIn_of _ (by decide +kernel)) ggL_law_X7_engrave
set_option maxRecDepth 100000 in
theorem ggL_law_X6_engraveAll : GoodIn wsL_law wsX6_engraveAll := goodIn_r _ [556, 15, 20, 378, 379, 380, 14, 381, 42, 37, 38, 32, 382, 153, 154, 155, 41, 383, 384, 385, 386, 387, 388, 389, 390, 391, 392, 393, 394, 198, 199, 200, 31, 201, 51, 395, 396, 397, 398, 202, 203, 204, 205, 49, 399, 400, 178, 401, 402, 403, 404, 405, 36, 210, 211, 212, 35, 213, 59, 56, 57, 214, 215, 216, 217, 58, 406, 407, 408, 409, 410, 411, 412, 39, 413, 414, 415, 416, 40, 417, 418, 419, 420, 421, 422, 423, 424, 425, 426, 427, 557, 558, 559, 560, 190, 191, 192, 193, 561, 478, 479, 480, 481, 482, 483, 484, 88, 89, 90, 19, 91, 67, 66, 92, 93, 94, 95, 65, 96, 97, 98, 99, 43, 44, 100, 101, 102, 103, 104, 105, 106, 107, 52, 108, 109, 110, 111, 112, 485, 486, 487, 488, 562, 122, 123, 124, 125, 126, 127, 740, 741, 742, 743, 744, 752, 753, 754, 755, 756, 757, 758, 759, 760, 761, 767, 768, 769, 770, 771, 772, 773, 762, 763, 764] rfl (by decide +kernel)
set_option maxRecDepth 100000 in
theorem gL_law_X6_engraveAll : GoodIn wsL_law (wsV RL 58 RX6 yX6_engraveAll wsX6_engraveAll) := goodIn_app (goodIn_of _ (by decide +kernel)) ggL_law_X6_engraveAll
set_option maxRecDepth 100000 in
theorem ggL_law_X7_engraveAll : GoodIn wsL_law wsX7_engraveAll := goodIn_r _ [566, 77, 432, 433, 434, 5, 435, 140, 141, 142, 143, 144, 145, 146, 147, 436, 437, 438, 439, 440, 441, 442, 443, 444, 445, 446, 447, 448, 449, 450, 451, 260, 261, 262, 263, 452, 453, 454, 246, 247, 248, 132, 133, 134, 455, 456, 457, 458, 459, 460, 461, 264, 265, 266, 267, 268, 269, 270, 271, 462, 463, 464, 465, 466, 467, 468, 469, 470, 471, 472, 256, 257, 258, 259, 519, 520, 521, 522, 523, 524, 525, 526, 527, 528, 529, 530, 135, 136, 137, 138, 139, 78, 531, 532, 533, 534, 745, 746, 747, 748, 749, 750, 751] rfl (by decide +kernel)
set_option maxRecDepth 100000 in
theorem gL_law_X7_engraveAll : GoodIn wsL_law (wsV RL 61 RX7 yX7_engraveAll wsX7_engraveAll) := goodIn_app (goodIn_of _ (by decide +kernel)) ggL_law_X7_engraveAll
set_option maxRecDepth 100000 in
theorem ggL_law_X6_undo : GoodIn wsL_law wsX6_undo := goodIn_r _ [570, 20, 15, 571, 572, 573, 19, 574, 67, 92, 93, 94, 95, 66, 65, 96, 97, 98, 14, 99, 32, 36, 37, 38, 39, 40, 41, 42, 43, 44, 100, 101, 102, 31, 103, 49, 104, 105, 106, 107, 51, 52, 108, 109, 110, 35, 111, 56, 112, 57, 58, 59, 740, 741, 742, 743, 744, 762, 763, 764, 752, 753, 754, 755, 756, 757, 758, 759, 760, 761, 767, 768, 769, 770, 771, 772, 773] rfl (by decide +kernel)
set_option maxRecDepth 100000 in
theorem gL_law_X6_undo : GoodIn wsL_law (wsV RL 62 RX6 yX6_undo wsX6_undo) := goodIn_app (goodIn_of _ (by decide +kernel)) ggL_law_X6_undo
set_option maxRecDepth 100000 in
theorem ggL_law_X7_undo : GoodIn wsL_law wsX7_undo := goodIn_r _ [578, 139, 77, 78, 745, 746, 747, 748, 749, 750, 751] rfl (by decide +kernel)
set_option maxRecDepth 100000 in
theorem gL_law_X7_undo : GoodIn wsL_law (wsV RL 65 RX7 yX7_undo wsX7_undo) := goodIn_app (goodIn_of _ (by decide +kernel)) ggL_law_X7_undo
set_option maxRecDepth 100000 in
theorem ggL_law_X6_keep : GoodIn wsL_law wsX6_keep := goodIn_r _ [582, 16, 15, 25, 583, 97, 98, 14, 99, 32, 36, 37, 38, 39, 40, 41, 42, 43, 44, 100, 101, 102, 31, 103, 49, 104, 105, 106, 107, 51, 52, 108, 109, 110, 35, 111, 56, 112, 57, 58, 59, 740, 741, 742, 743, 744, 752, 753, 754, 755, 756, 757, 758, 759, 760, 761, 767, 768, 769, 770, 771, 772, 773] rfl (by decide +kernel)
set_option maxRecDepth 100000 in
theorem gL_law_X6_keep : GoodIn wsL_law (wsV RL 66 RX6 yX6_keep wsX6_keep) := goodIn_app (goodIn_of _ (by decide +kernel)) ggL_law_X6_keep
set_option maxRecDepth 100000 in
theorem ggL_law_X7_keep : GoodIn wsL_law wsX7_keep := goodIn_r _ [587, 79, 77, 588, 745, 746, 747, 748, 749, 750, 751] rfl (by decide +kernel)
set_option maxRecDepth 100000 in
theorem gL_law_X7_keep : GoodIn wsL_law (wsV RL 69 RX7 yX7_keep wsX7_keep) := goodIn_app (goodIn_of _ (by decide +kernel)) ggL_law_X7_keep
set_option maxRecDepth 100000 in
theorem ggL_law_X6_restore : GoodIn wsL_law wsX6_restore := goodIn_r _ [592, 25, 20, 15, 16, 88, 89, 90, 19, 91, 67, 66, 92, 93, 94, 95, 65, 96, 97, 98, 14, 99, 32, 36, 37, 38, 39, 40, 41, 42, 43, 44, 100, 101, 102, 31, 103, 49, 104, 105, 106, 107, 51, 52, 108, 109, 110, 35, 111, 56, 112, 57, 58, 59, 583, 740, 741, 742, 743, 744, 752, 753, 754, 755, 756, 757, 758, 759, 760, 761, 767, 768, 769, 762, 763, 764, 770, 771, 772, 773] rfl (by decide +kernel)
set_option maxRecDepth 100000 in
theorem gL_law_X6_restore : GoodIn wsL_law (wsV RL 70 RX6 yX6_restore wsX6_restore) := goodIn_app (goodIn_of _ (by decide +kernel)) ggL_law_X6_restore
set_option maxRecDepth 100000 in
theorem ggL_law_X7_restore : GoodIn wsL_law wsX7_restore := goodIn_r _ [596, 588, 77, 79, 135, 136, 137, 5, 138, 139, 78, 745, 746, 747, 748, 749, 750, 751] rfl (by decide +kernel)
set_option maxRecDepth 100000 in
theorem gL_law_X7_restore : GoodIn wsL_law (wsV RL 73 RX7 yX7_restore wsX7_restore) := goodIn_app (goodIn_of _ (by decide +kernel)) ggL_law_X7_restore
set_option maxRecDepth 100000 in
theorem ggL_law_X6_name : GoodIn wsL_law wsX6_name := goodIn_r _ [600, 15, 351, 332, 333, 31, 334, 52, 601, 199, 200, 201, 51, 602, 392, 393, 14, 394, 32, 198, 395, 396, 397, 398, 202, 203, 204, 205, 49, 399, 400, 178, 401, 402, 403, 404, 405, 36, 387, 388, 389, 390, 210, 211, 212, 35, 213, 59, 56, 57, 214, 215, 216, 217, 58, 406, 407, 408, 376, 191, 192, 193, 41, 603, 482, 483, 484, 40, 417, 418, 419, 420, 421, 422, 423, 604, 501, 502, 503, 605, 505, 506, 507, 508, 509, 510, 378, 379, 380, 381, 42, 37, 38, 382, 153, 154, 155, 383, 384, 385, 386, 391, 409, 410, 411, 412, 39, 413, 414, 415, 416, 424, 425, 426, 427, 606, 607, 608, 2, 609, 477, 478, 479, 480, 481, 489, 490, 491, 492, 493, 494, 495, 496, 497, 498, 499, 500, 504, 511, 512, 513, 514, 610, 611, 612, 613, 614, 615, 616, 617, 740, 741, 742, 743, 744, 752, 753, 754, 755, 756, 757, 758, 759, 760, 761, 767, 768, 769, 770, 771, 772, 773] rfl (by decide +kernel)
set_option maxRecDepth 100000 in
theorem gL_law_X6_name : GoodIn wsL_law (wsV RL 74 RX6 yX6_name wsX6_name) := goodIn_app (goodIn_of _ (by decide +kernel)) ggL_law_X6_name
set_option maxRecDepth 100000 in
theorem ggL_law_X7_name : GoodIn wsL_law wsX7_name := goodIn_r _ [621, 77, 368, 369, 370, 5, 371, 132, 133, 134, 432, 433, 434, 435, 140, 141, 142, 143, 144, 145, 146, 147, 436, 437, 438, 439, 440, 441, 442, 443, 444, 445, 446, 447, 448, 449, 450, 451, 260, 261, 262, 263, 452, 453, 454, 246, 247, 248, 455, 456, 457, 458, 459, 460, 461, 264, 265, 266, 267, 268, 269, 270, 271, 462, 463, 464, 465, 466, 467, 468, 469, 470, 471, 472, 527, 528, 529, 530, 535, 536, 537, 538, 539, 540, 541, 542, 543, 544, 545, 546, 547, 548, 549, 523, 524, 525, 526, 550, 551, 552, 519, 520, 521, 522, 745, 746, 747, 748, 749, 750, 751] rfl (by decide +kernel)
set_option maxRecDepth 100000 in
theorem gL_law_X7_name : GoodIn wsL_law (wsV RL 77 RX7 yX7_name wsX7_name) := goodIn_app (goodIn_of _ (by decide +kernel)) ggL_law_X7_name
set_option maxRecDepth 100000 in
theorem ggL_law_X6_sign : GoodIn wsL_law wsX6_sign := goodIn_r _ [625, 15, 626, 627, 628, 31, 629, 331, 332, 333, 334, 52, 630, 199, 200, 201, 51, 631, 203, 204, 205, 49, 632, 396, 397, 14, 398, 32, 202, 399, 400, 178, 401, 402, 403, 404, 405, 36, 387, 388, 389, 390, 198, 210, 211, 212, 35, 213, 59, 56, 57, 214, 215, 216, 217, 58, 406, 407, 408, 633, 634, 635, 636, 637, 638, 639, 640, 641, 642, 378, 379, 380, 381, 42, 37, 38, 382, 153, 154, 155, 41, 383, 384, 385, 386, 391, 392, 393, 394, 395, 409, 410, 411, 412, 39, 413, 414, 415, 416, 40, 417, 418, 419, 420, 421, 422, 423, 424, 425, 426, 427, 643, 644, 645, 2, 646, 489, 490, 491, 492, 493, 494, 495, 496, 497, 498, 499, 500, 501, 502, 503, 504, 505, 506, 507, 508, 509, 510, 511, 512, 513, 514, 740, 741, 742, 743, 744, 752, 753, 754, 755, 756, 757, 758, 759, 760, 761, 767, 768, 769, 770, 771, 772, 773] rfl (by decide +kernel)
set_option maxRecDepth 100000 in
theorem gL_law_X6_sign : GoodIn wsL_law (wsV RL 78 RX6 yX6_sign wsX6_sign) := goodIn_app (goodIn_of _ (by decide +kernel)) ggL_law_X6_sign
set_option maxRecDepth 100000 in
theorem ggL_law_X7_sign : GoodIn wsL_law wsX7_sign := goodIn_r _ [650, 368, 369, 370, 5, 371, 77, 132, 133, 134, 144, 145, 146, 147, 260, 261, 262, 263, 455, 456, 457, 458, 459, 460, 461, 246, 247, 248, 264, 265, 266, 267, 268, 269, 270, 271, 432, 433, 434, 435, 140, 141, 142, 143, 436, 437, 438, 439, 440, 441, 442, 443, 444, 445, 446, 447, 448, 449, 450, 451, 452, 453, 454, 462, 463, 464, 465, 466, 467, 468, 469, 470, 471, 472, 535, 536, 537, 538, 539, 540, 541, 542, 543, 544, 545, 546, 547, 548, 549, 523, 524, 525, 526, 550, 551, 552, 745, 746, 747, 748, 749, 750, 751] rfl (by decide +kernel)
set_option maxRecDepth 100000 in
theorem gL_law_X7_sign : GoodIn wsL_law (wsV RL 82 RX7 yX7_sign wsX7_sign) := goodIn_app (goodIn_of _ (by decide +kernel)) ggL_law_X7_sign
set_option maxRecDepth 100000 in
theorem ggL_law_X6_signAt : GoodIn wsL_law wsX6_signAt := goodIn_r _ [654, 15, 378, 379, 380, 14, 381, 42, 37, 38, 32, 382, 153, 154, 155, 41, 383, 384, 385, 386, 387, 388, 389, 390, 391, 392, 393, 394, 198, 199, 200, 31, 201, 51, 395, 396, 397, 398, 202, 203, 204, 205, 49, 399, 400, 178, 401, 402, 403, 404, 405, 36, 210, 211, 212, 35, 213, 59, 56, 57, 214, 215, 216, 217, 58, 406, 407, 408, 409, 410, 411, 412, 39, 413, 414, 415, 416, 40, 417, 418, 419, 420, 421, 422, 423, 424, 425, 426, 427, 610, 611, 612, 613, 481, 482, 483, 484, 655, 656, 657, 658, 659, 490, 491, 492, 493, 494, 495, 496, 497, 498, 499, 500, 501, 502, 503, 504, 505, 506, 507, 508, 509, 510, 511, 512, 513, 514, 740, 741, 742, 743, 744, 752, 753, 754, 755, 756, 757, 758, 759, 760, 761, 767, 768, 769, 770, 771, 772, 773] rfl (by decide +kernel)
set_option maxRecDepth 100000 in
theorem gL_law_X6_signAt : GoodIn wsL_law (wsV RL 83 RX6 yX6_signAt wsX6_signAt) := goodIn_app (goodIn_of _ (by decide +kernel)) ggL_law_X6_signAt
set_option maxRecDepth 100000 in
theorem ggL_law_X7_signAt : GoodIn wsL_law wsX7_signAt := goodIn_r _ [663, 77, 432, 433, 434, 5, 435, 140, 141, 142, 143, 144, 145, 146, 147, 436, 437, 438, 439, 440, 441, 442, 443, 444, 445, 446, 447, 448, 449, 450, 451, 260, 261, 262, 263, 452, 453, 454, 246, 247, 248, 132, 133, 134, 455, 456, 457, 458, 459, 460, 461, 264, 265, 266, 267, 268, 269, 270, 271, 462, 463, 464, 465, 466, 467, 468, 469, 470, 471, 472, 527, 528, 529, 530, 535, 536, 537, 538, 539, 540, 541, 542, 543, 544, 545, 546, 547, 548, 549, 523, 524, 525, 526, 550, 551, 552, 745, 746, 747, 748, 749, 750, 751] rfl (by decide +kernel)
set_option maxRecDepth 100000 in
theorem gL_law_X7_signAt : GoodIn wsL_law (wsV RL 86 RX7 yX7_signAt wsX7_signAt) := goodIn_app (goodIn_of _ (by decide +kernel)) ggL_law_X7_signAt
set_option maxRecDepth 100000 in
theorem ggL_law_X6_size : GoodIn wsL_law wsX6_size := goodIn_r _ [667, 15, 378, 379, 380, 14, 381, 42, 37, 38, 32, 382, 153, 154, 155, 41, 383, 384, 385, 386, 387, 388, 389, 390, 391, 392, 393, 394, 198, 199, 200, 31, 201, 51, 395, 396, 397, 398, 202, 203, 204, 205, 49, 399, 400, 178, 401, 402, 403, 404, 405, 36, 210, 211, 212, 35, 213, 59, 56, 57, 214, 215, 216, 217, 58, 406, 407, 408, 409, 410, 411, 412, 39, 413, 414, 415, 416, 40, 417, 418, 419, 420, 421, 422, 423, 424, 425, 426, 427, 740, 741, 742, 743, 744, 752, 753, 754, 755, 756, 757, 758, 759, 760, 761, 767, 768, 769, 770, 771, 772, 773] rfl (by decide +kernel)
set_option maxRecDepth 100000 in
theorem gL_law_X6_size : GoodIn wsL_law (wsV RL 87 RX6 yX6_size wsX6_size) := goodIn_app (goodIn_of _ (by decide +kernel)) ggL_law_X6_size
set_option maxRecDepth 100000 in
theorem ggL_law_X7_size : GoodIn wsL_law wsX7_size := goodIn_r _ [435, 77, 140, 141, 142, 5, 143, 144, 145, 146, 147, 436, 437, 438, 439, 440, 441, 442, 443, 444, 445, 446, 447, 448, 449, 450, 451, 260, 261, 262, 263, 452, 453, 454, 246, 247, 248, 132, 133, 134, 455, 456, 457, 458, 459, 460, 461, 264, 265, 266, 267, 268, 269, 270, 271, 462, 463, 464, 465, 466, 467, 468, 469, 470, 471, 472, 745, 746, 747, 748, 749, 750, 751] rfl (by decide +kernel)
set_option maxRecDepth 100000 in
theorem gL_law_X7_size : GoodIn wsL_law (wsV RL 90 RX7 yX7_size wsX7_size) := goodIn_app (goodIn_of _ (by decide +kernel)) ggL_law_X7_size
set_option maxRecDepth 100000 in
theorem ggL_law_X6_sizeBy : GoodIn wsL_law wsX6_sizeBy := goodIn_r _ [672, 15, 85, 86, 2, 87, 673, 384, 385, 14, 386, 32, 387, 388, 389, 390, 391, 392, 393, 394, 198, 199, 200, 31, 201, 51, 395, 396, 397, 398, 202, 203, 204, 205, 49, 399, 400, 178, 401, 402, 403, 404, 405, 36, 210, 211, 212, 35, 213, 59, 56, 57, 214, 215, 216, 217, 58, 406, 407, 408, 674, 410, 411, 412, 39, 413, 414, 415, 416, 40, 417, 418, 419, 420, 421, 422, 423, 424, 425, 426, 427, 740, 741, 742, 743, 744, 752, 753, 754, 755, 756, 757, 758, 759, 760, 761, 767, 768, 769, 770, 771, 772, 773] rfl (by decide +kernel)
set_option maxRecDepth 100000 in
theorem gL_law_X6_sizeBy : GoodIn wsL_law (wsV RL 91 RX6 yX6_sizeBy wsX6_sizeBy) := goodIn_app (goodIn_of _ (by decide +kernel)) ggL_law_X6_sizeBy
set_option maxRecDepth 100000 in
theorem ggL_law_X7_sizeBy : GoodIn wsL_law wsX7_sizeBy := goodIn_r _ [678, 132, 133, 5, 134, 436, 437, 438, 439, 77, 440, 441, 442, 443, 444, 445, 446, 447, 144, 145, 146, 147, 448, 449, 450, 451, 260, 261, 262, 263, 452, 453, 454, 246, 247, 248, 455, 456, 457, 458, 459, 460, 461, 264, 265, 266, 267, 268, 269, 270, 271, 462, 463, 464, 465, 466, 467, 468, 469, 470, 471, 472, 745, 746, 747, 748, 749, 750, 751] rfl (by decide +kernel)
set_option maxRecDepth 100000 in
theorem gL_law_X7_sizeBy : GoodIn wsL_law (wsV RL 94 RX7 yX7_sizeBy wsX7_sizeBy) := goodIn_app (goodIn_of _ (by decide +kernel)) ggL_law_X7_sizeBy
set_option maxRecDepth 100000 in
theorem ggL_law_X6_sizeWithout : GoodIn wsL_law wsX6_sizeWithout := goodIn_r _ [682, 15, 351, 332, 333, 31, 334, 52, 673, 384, 385, 14, 386, 32, 387, 388, 389, 390, 391, 392, 393, 394, 198, 199, 200, 201, 51, 395, 396, 397, 398, 202, 203, 204, 205, 49, 399, 400, 178, 401, 402, 403, 404, 405, 36, 210, 211, 212, 35, 213, 59, 56, 57, 214, 215, 216, 217, 58, 406, 407, 408, 674, 410, 411, 412, 39, 413, 414, 415, 416, 40, 417, 418, 419, 420, 421, 422, 423, 424, 425, 426, 427, 740, 741, 742, 743, 744, 752, 753, 754, 755, 756, 757, 758, 759, 760, 761, 767, 768, 769, 770, 771, 772, 773] rfl (by decide +kernel)
set_option maxRecDepth 100000 in
theorem gL_law_X6_sizeWithout : GoodIn wsL_law (wsV RL 95 RX6 yX6_sizeWithout wsX6_sizeWithout) := goodIn_app (goodIn_of _ (by decide +kernel)) ggL_law_X6_sizeWithout
set_option maxRecDepth 100000 in
theorem ggL_law_X7_sizeWithout : GoodIn wsL_law wsX7_sizeWithout := goodIn_r _ [686, 77, 368, 369, 370, 5, 371, 132, 133, 134, 440, 441, 442, 443, 444, 445, 446, 447, 144, 145, 146, 147, 448, 449, 450, 451, 260, 261, 262, 263, 452, 453, 454, 246, 247, 248, 455, 456, 457, 458, 459, 460, 461, 264, 265, 266, 267, 268, 269, 270, 271, 462, 463, 464, 465, 466, 467, 468, 469, 470, 471, 472, 745, 746, 747, 748, 749, 750, 751] rfl (by decide +kernel)
set_option maxRecDepth 100000 in
theorem gL_law_X7_sizeWithout : GoodIn wsL_law (wsV RL 98 RX7 yX7_sizeWithout wsX7_sizeWithout) := goodIn_app (goodIn_of _ (by decide +kernel)) ggL_law_X7_sizeWithout
set_option maxRecDepth 100000 in
theorem ggL_law_X6_leastWidth : GoodIn wsL_law wsX6_leastWidth := goodIn_r _ [690, 15, 691, 388, 389, 390, 673, 384, 385, 14, 386, 32, 387, 391, 392, 393, 394, 198, 199, 200, 31, 201, 51, 395, 396, 397, 398, 202, 203, 204, 205, 49, 399, 400, 178, 401, 402, 403, 404, 405, 36, 210, 211, 212, 35, 213, 59, 56, 57, 214, 215, 216, 217, 58, 406, 407, 408, 740, 741, 742, 743, 744, 752, 753, 754, 755, 756, 757, 758, 759, 760, 761, 767, 768, 769, 770, 771, 772, 773] rfl (by decide +kernel)
set_option maxRecDepth 100000 in
theorem gL_law_X6_leastWidth : GoodIn wsL_law (wsV RL 99 RX6 yX6_leastWidth wsX6_leastWidth) := goodIn_app (goodIn_of _ (by decide +kernel)) ggL_law_X6_leastWidth
set_option maxRecDepth 100000 in
theorem ggL_law_X7_leastWidth : GoodIn wsL_law wsX7_leastWidth := goodIn_r _ [695, 77, 132, 133, 5, 134, 440, 441, 442, 443, 444, 445, 446, 447, 144, 145, 146, 147, 448, 449, 450, 451, 260, 261, 262, 263, 452, 453, 454, 246, 247, 248, 455, 456, 457, 458, 459, 460, 461, 264, 265, 266, 267, 268, 269, 270, 271, 745, 746, 747, 748, 749, 750, 751] rfl (by decide +kernel)
set_option maxRecDepth 100000 in
theorem gL_law_X7_leastWidth : GoodIn wsL_law (wsV RL 102 RX7 yX7_leastWidth wsX7_leastWidth) := goodIn_app (goodIn_of _ (by decide +kernel)) ggL_law_X7_leastWidth
set_option maxRecDepth 100000 in
theorem ggL_law_X6_longest : GoodIn wsL_law wsX6_longest := goodIn_r _ [699, 15, 673, 384, 385, 14, 386, 32, 387, 388, 389, 390, 391, 392, 393, 394, 198, 199, 200, 31, 201, 51, 395, 396, 397, 398, 202, 203, 204, 205, 49, 399, 400, 178, 401, 402, 403, 404, 405, 36, 210, 211, 212, 35, 213, 59, 56, 57, 214, 215, 216, 217, 58, 406, 407, 408, 602, 740, 741, 742, 743, 744, 752, 753, 754, 755, 756, 757, 758, 759, 760, 761, 767, 768, 769, 770, 771, 772, 773] rfl (by decide +kernel)
set_option maxRecDepth 100000 in
theorem gL_law_X6_longest : GoodIn wsL_law (wsV RL 103 RX6 yX6_longest wsX6_longest) := goodIn_app (goodIn_of _ (by decide +kernel)) ggL_law_X6_longest
set_option maxRecDepth 100000 in
theorem ggL_law_X7_longest : GoodIn wsL_law wsX7_longest := goodIn_r _ [703, 77, 444, 445, 446, 5, 447, 144, 145, 146, 147, 448, 449, 450, 451, 260, 261, 262, 263, 452, 453, 454, 246, 247, 248, 132, 133, 134, 455, 456, 457, 458, 459, 460, 461, 264, 265, 266, 267, 268, 269, 270, 271, 745, 746, 747, 748, 749, 750, 751] rfl (by decide +kernel)
set_option maxRecDepth 100000 in
theorem gL_law_X7_longest : GoodIn wsL_law (wsV RL 106 RX7 yX7_longest wsX7_longest) := goodIn_app (goodIn_of _ (by decide +kernel)) ggL_law_X7_longest
set_option maxRecDepth 100000 in
theorem ggL_law_X6_adjustment : GoodIn wsL_law wsX6_adjustment := goodIn_r _ [707, 15, 176, 177, 178, 179, 180, 181, 182, 183, 184, 185, 206, 207, 208, 14, 209, 36, 210, 211, 212, 35, 213, 59, 56, 57, 214, 215, 216, 217, 58, 740, 741, 742, 743, 744, 752, 753, 754, 755, 756, 757, 758, 759, 760, 761, 770, 771, 772, 773] rfl (by decide +kernel)
set_option maxRecDepth 100000 in
theorem gL_law_X6_adjustment : GoodIn wsL_law (wsV RL 107 RX6 yX6_adjustment wsX6_adjustment) := goodIn_app (goodIn_of _ (by decide +kernel)) ggL_law_X6_adjustment
set_option maxRecDepth 100000 in
theorem ggL_law_X7_adjustment : GoodIn wsL_law wsX7_adjustment := goodIn_r _ [711, 243, 244, 5, 245, 246, 247, 248, 132, 133, 134, 249, 250, 251, 264, 265, 266, 267, 77, 268, 269, 270, 271, 745, 746, 747, 748, 749, 750, 751] rfl (by decide +kernel)
set_option maxRecDepth 100000 in
theorem gL_law_X7_adjustment : GoodIn wsL_law (wsV RL 111 RX7 yX7_adjustment wsX7_adjustment) := goodIn_app (goodIn_of _ (by decide +kernel)) ggL_law_X7_adjustment
set_option maxRecDepth 100000 in
theorem ggL_law_X6_pair : GoodIn wsL_law wsX6_pair := goodIn_r _ [715, 15, 716, 228, 229, 35, 230, 59, 717, 718, 719, 720, 56, 227, 721, 722, 723, 724, 57, 725, 215, 216, 217, 58, 740, 741, 742, 743, 744, 752, 753, 754, 755, 756, 757, 758, 759, 760, 761, 770, 771, 772, 773] rfl (by decide +kernel)
set_option maxRecDepth 100000 in
theorem gL_law_X6_pair : GoodIn wsL_law (wsV RL 112 RX6 yX6_pair wsX6_pair) := goodIn_app (goodIn_of _ (by decide +kernel)) ggL_law_X6_pair
set_option maxRecDepth 100000 in
theorem ggL_law_X7_pair : GoodIn wsL_law wsX7_pair := goodIn_r _ [729, 77, 132, 133, 5, 134, 745, 746, 747, 748, 749, 750, 751] rfl (by decide +kernel)
set_option maxRecDepth 100000 in
theorem gL_law_X7_pair : GoodIn wsL_law (wsV RL 115 RX7 yX7_pair wsX7_pair) := goodIn_app (goodIn_of _ (by decide +kernel)) ggL_law_X7_pair
set_option maxRecDepth 100000 in
theorem ggL_law_X6_count : GoodIn wsL_law wsX6_count := goodIn_r _ [733, 15, 20, 24, 734, 118, 119, 14, 120, 41, 121, 122, 123, 124, 125, 126, 127, 735, 414, 415, 416, 40, 417, 418, 419, 420, 421, 422, 423, 740, 741, 742, 743, 744, 752, 753, 754, 755, 756, 757, 758, 759, 760, 761, 767, 768, 769, 770, 771, 772, 773, 762, 763, 764, 765, 766] rfl (by decide +kernel)
set_option maxRecDepth 100000 in
theorem gL_law_X6_count : GoodIn wsL_law (wsV RL 116 RX6 yX6_count wsX6_count) := goodIn_app (goodIn_of _ (by decide +kernel)) ggL_law_X6_count
set_option maxRecDepth 100000 in
theorem ggL_law_X7_count : GoodIn wsL_law wsX7_count := goodIn_r _ [739, 77, 139, 288, 140, 141, 142, 5, 143, 144, 145, 146, 147, 462, 463, 464, 465, 745, 746, 747, 748, 749, 750, 751] rfl (by decide +kernel)
set_option maxRecDepth 100000 in
theorem gL_law_X7_count : GoodIn wsL_law (wsV RL 119 RX7 yX7_count wsX7_count) := goodIn_app (goodIn_of _ (by decide +kernel)) ggL_law_X7_count
