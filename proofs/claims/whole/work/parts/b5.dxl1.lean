set_option maxRecDepth 20000 in
theorem gL_law_X5_init : GoodIn wsL_law (wsX5_init) := ggL_law_X5_init
set_option maxRecDepth 20000 in
theorem ggL_law_X6_init : GoodIn wsL_law wsX6_init := goodIn_r _ [61, 62, 12, 13, 36, 63, 64, 65, 66, 67, 6, 68, 69, 70, 71, 72, 73, 74, 75, 76, 77, 78, 79, 706, 707, 708, 709, 710, 711, 712, 713, 714, 715, 716, 717, 718, 719, 720, 721, 722, 723, 724] (by decide +kernel) (by decide +kernel)
set_option maxRecDepth 20000 in
theorem gL_law_X6_init : GoodIn wsL_law (wsX6_init) := ggL_law_X6_init
set_option maxRecDepth 20000 in
theorem ggL_law_X5_yard : GoodIn wsL_law wsX5_yard := goodIn_r _ [83, 18, 15, 14, 84, 85, 86, 87, 88, 89, 12, 13, 90, 91, 36, 92, 93, 94, 699, 700, 701, 702, 703, 704, 705, 737, 738, 739, 740] (by decide +kernel) (by decide +kernel)
set_option maxRecDepth 20000 in
theorem gL_law_X5_yard : GoodIn wsL_law (wsV RL 92 RX5 yX5_yard wsX5_yard) := goodIn_app (goodIn_of _ (by decide +kernel)) ggL_law_X5_yard
set_option maxRecDepth 20000 in
theorem ggL_law_X6_yard : GoodIn wsL_law wsX6_yard := goodIn_r _ [98, 99, 100, 63, 706, 707, 708, 709, 710, 711, 712, 713, 714, 715, 716, 717, 718, 719, 720, 721, 722, 723, 724] (by decide +kernel) (by decide +kernel)
set_option maxRecDepth 20000 in
theorem gL_law_X6_yard : GoodIn wsL_law (wsV RL 95 RX6 yX6_yard wsX6_yard) := goodIn_app (goodIn_of _ (by decide +kernel)) ggL_law_X6_yard
set_option maxRecDepth 20000 in
theorem ggL_law_L_path : GoodIn wsL_law wsL_path := goodIn_ca (goodIn_r _ [104, 105, 106, 107, 108, 2, 109, 110, 111, 112, 113, 114, 115, 116, 18, 15, 117, 118, 119, 120, 121, 122, 123, 85, 124, 92, 93, 737, 738, 739, 740, 699, 700, 701, 702, 703, 704, 705] (by decide +kernel) (by decide +kernel)) (goodIn_sub (fun _ h => List.mem_append_left _ (List.mem_append_left _ (List.mem_append_right _ h))) (by decide +kernel))
set_option maxRecDepth 20000 in
theorem gL_law_L_path : GoodIn wsL_law (va_wsS RL 96 yL_path wsL_path) := goodIn_app (goodIn_of _ (by decide +kernel)) ggL_law_L_path
set_option maxRecDepth 20000 in
theorem ggL_law_X6_path : GoodIn wsL_law wsX6_path := goodIn_r _ [128, 67, 64, 129, 130, 131, 5, 132, 99, 100, 133, 134, 135, 136, 137, 138, 139, 140, 63, 141, 142, 143, 144, 706, 707, 708, 709, 710, 711, 712, 713, 714, 715, 716, 717, 718, 719, 720, 721, 722, 723, 724] (by decide +kernel) (by decide +kernel)
set_option maxRecDepth 20000 in
theorem gL_law_X6_path : GoodIn wsL_law (wsV RL 101 RX6 yX6_path wsX6_path) := goodIn_app (goodIn_of _ (by decide +kernel)) ggL_law_X6_path
set_option maxRecDepth 20000 in
theorem ggL_law_X6_thrown : GoodIn wsL_law wsX6_thrown := goodIn_r _ [148, 99, 706, 707, 708, 709, 710, 711, 712, 713, 714, 715, 716, 717, 718, 719, 720, 721, 722, 723, 724] (by decide +kernel) (by decide +kernel)
set_option maxRecDepth 20000 in
theorem gL_law_X6_thrown : GoodIn wsL_law (wsV RL 102 RX6 yX6_thrown wsX6_thrown) := goodIn_app (goodIn_of _ (by decide +kernel)) ggL_law_X6_thrown
set_option maxRecDepth 20000 in
theorem ggL_law_L_degree : GoodIn wsL_law wsL_degree := goodIn_ca (goodIn_r _ [151, 105, 152, 153, 154, 2, 155, 156, 111, 112, 113, 114, 115, 116, 18, 15, 117, 118, 119, 120, 737, 738, 739, 740, 699, 700, 701, 702, 703, 704, 705] (by decide +kernel) (by decide +kernel)) (goodIn_sub (fun _ h => List.mem_append_left _ (List.mem_append_left _ (List.mem_append_right _ h))) (by decide +kernel))
set_option maxRecDepth 20000 in
theorem gL_law_L_degree : GoodIn wsL_law (va_wsS RL 106 yL_degree wsL_degree) := goodIn_app (goodIn_of _ (by decide +kernel)) ggL_law_L_degree
set_option maxRecDepth 20000 in
theorem ggL_law_X6_degree : GoodIn wsL_law wsX6_degree := goodIn_r _ [160, 129, 130, 131, 5, 132, 99, 100, 133, 134, 135, 136, 137, 138, 139, 140, 63, 161, 162, 163, 164, 141, 142, 143, 144, 64, 706, 707, 708, 709, 710, 711, 712, 713, 714, 715, 716, 717, 718, 719, 720, 721, 722, 723, 724] (by decide +kernel) (by decide +kernel)
set_option maxRecDepth 20000 in
theorem gL_law_X6_degree : GoodIn wsL_law (wsV RL 109 RX6 yX6_degree wsX6_degree) := goodIn_app (goodIn_of _ (by decide +kernel)) ggL_law_X6_degree
set_option maxRecDepth 20000 in
theorem ggL_law_L_whole : GoodIn wsL_law wsL_whole := goodIn_ca (goodIn_r _ [167, 105, 168, 169, 170, 2, 171, 111, 112, 113, 114, 115, 116, 18, 15, 172, 173, 174, 85, 175, 90, 176, 177, 178, 179, 92, 699, 700, 701, 702, 703, 704, 705, 737, 738, 739, 740] (by decide +kernel) (by decide +kernel)) (goodIn_sub (fun _ h => List.mem_append_left _ (List.mem_append_left _ (List.mem_append_right _ h))) (by decide +kernel))
set_option maxRecDepth 20000 in
theorem gL_law_L_whole : GoodIn wsL_law (va_wsS RL 110 yL_whole wsL_whole) := goodIn_app (goodIn_of _ (by decide +kernel)) ggL_law_L_whole
set_option maxRecDepth 20000 in
theorem ggL_law_X6_whole : GoodIn wsL_law wsX6_whole := goodIn_r _ [183, 129, 130, 131, 5, 132, 99, 100, 133, 134, 135, 136, 184, 185, 186, 187, 63, 141, 142, 143, 144, 64, 706, 707, 708, 709, 710, 711, 712, 713, 714, 715, 716, 717, 718, 719, 720, 721, 722, 723, 724] (by decide +kernel) (by decide +kernel)
set_option maxRecDepth 20000 in
theorem gL_law_X6_whole : GoodIn wsL_law (wsV RL 113 RX6 yX6_whole wsX6_whole) := goodIn_app (goodIn_of _ (by decide +kernel)) ggL_law_X6_whole
set_option maxRecDepth 20000 in
theorem ggL_law_L_trees : GoodIn wsL_law wsL_trees := goodIn_ca (goodIn_r _ [190, 105, 191, 192, 193, 2, 194, 27, 111, 112, 113, 114, 115, 116, 18, 15, 195, 196, 197, 26, 198, 42, 199, 173, 174, 85, 175, 90, 176, 177, 178, 179, 92, 200, 201, 202, 203, 204, 48, 205, 206, 207, 208, 209, 210, 211, 212, 213, 214, 699, 700, 701, 702, 703, 704, 705, 726, 727, 728, 729, 730, 731, 737, 738, 739, 740] (by decide +kernel) (by decide +kernel)) (goodIn_sub (fun _ h => List.mem_append_left _ (List.mem_append_left _ (List.mem_append_right _ h))) (by decide +kernel))
set_option maxRecDepth 20000 in
theorem gL_law_L_trees : GoodIn wsL_law (va_wsS RL 114 yL_trees wsL_trees) := goodIn_app (goodIn_of _ (by decide +kernel)) ggL_law_L_trees
set_option maxRecDepth 20000 in
theorem ggL_law_X6_trees : GoodIn wsL_law wsX6_trees := goodIn_r _ [218, 129, 130, 131, 5, 132, 99, 100, 133, 134, 135, 136, 184, 185, 186, 187, 63, 141, 142, 143, 144, 64, 219, 220, 221, 222, 223, 224, 225, 226, 227, 228, 229, 230, 70, 231, 232, 233, 234, 161, 162, 163, 164, 235, 236, 237, 238, 239, 240, 241, 242, 706, 707, 708, 709, 710, 711, 712, 713, 714, 715, 716, 717, 718, 719, 720, 721, 722, 723, 724] (by decide +kernel) (by decide +kernel)
set_option maxRecDepth 20000 in
theorem gL_law_X6_trees : GoodIn wsL_law (wsV RL 116 RX6 yX6_trees wsX6_trees) := goodIn_app (goodIn_of _ (by decide +kernel)) ggL_law_X6_trees
set_option maxRecDepth 20000 in
theorem ggL_law_L_part : GoodIn wsL_law wsL_part := goodIn_ca (goodIn_ca (goodIn_r _ [245, 105, 246, 247, 248, 249, 2, 250, 251, 252, 115, 116, 31, 27, 111, 112, 113, 114, 18, 15, 172, 173, 174, 85, 175, 90, 176, 177, 178, 179, 92, 195, 196, 197, 26, 198, 42, 199, 200, 201, 202, 203, 204, 48, 205, 206, 207, 208, 209, 210, 211, 212, 213, 214, 253, 254, 255, 30, 256, 257, 56, 258, 259, 260, 261, 58, 55, 54, 57, 262, 263, 264, 265, 266, 267, 268, 269, 270, 271, 272, 273, 274, 275, 276, 277, 278, 279, 280, 281, 282, 283, 284, 285, 286, 287, 288, 289, 290, 291, 292, 293, 294, 295, 296, 297, 298, 299, 300, 301, 302, 303, 304, 305, 306, 307, 308, 309, 310, 311, 699, 700, 701, 702, 703, 704, 705, 737, 738, 739, 740, 726, 727, 728, 729, 730, 731, 732, 733, 734, 735, 736] (by decide +kernel) (by decide +kernel)) (goodIn_sub (fun _ h => List.mem_append_left _ (List.mem_append_right _ h)) (by decide +kernel))) (goodIn_sub (fun _ h => List.mem_append_left _ (List.mem_append_left _ (List.mem_append_right _ h))) (by decide +kernel))
set_option maxRecDepth 20000 in
theorem gL_law_L_part : GoodIn wsL_law (va_wsS RL 117 yL_part wsL_part) := goodIn_app (goodIn_of _ (by decide +kernel)) ggL_law_L_part
set_option maxRecDepth 20000 in
theorem ggL_law_X6_part : GoodIn wsL_law wsX6_part := goodIn_r _ [315, 71, 129, 130, 131, 5, 132, 99, 100, 133, 134, 135, 136, 184, 185, 186, 187, 63, 141, 142, 143, 144, 64, 316, 317, 318, 319, 320, 321, 322, 323, 223, 224, 225, 226, 324, 325, 326, 227, 228, 229, 230, 70, 231, 232, 233, 234, 161, 162, 163, 164, 235, 236, 237, 238, 239, 240, 241, 242, 327, 328, 329, 706, 707, 708, 709, 710, 711, 712, 713, 714, 715, 716, 717, 718, 719, 720, 721, 722, 723, 724] (by decide +kernel) (by decide +kernel)
set_option maxRecDepth 20000 in
theorem gL_law_X6_part : GoodIn wsL_law (wsV RL 119 RX6 yX6_part wsX6_part) := goodIn_app (goodIn_of _ (by decide +kernel)) ggL_law_X6_part
set_option maxRecDepth 20000 in
theorem ggL_law_L_heap : GoodIn wsL_law wsL_heap := goodIn_ca (goodIn_r _ [332, 105, 333, 334, 335, 2, 336, 19, 110, 17, 16, 337, 338, 111, 112, 113, 114, 115, 116, 18, 15, 172, 173, 174, 85, 175, 90, 176, 177, 178, 179, 92, 339, 340, 341, 342, 12, 13, 343, 6, 344, 345, 699, 700, 701, 702, 703, 704, 705, 737, 738, 739, 740, 741, 742, 743] (by decide +kernel) (by decide +kernel)) (goodIn_sub (fun _ h => List.mem_append_left _ (List.mem_append_left _ (List.mem_append_right _ h))) (by decide +kernel))
set_option maxRecDepth 20000 in
theorem gL_law_L_heap : GoodIn wsL_law (va_wsS RL 120 yL_heap wsL_heap) := goodIn_app (goodIn_of _ (by decide +kernel)) ggL_law_L_heap
set_option maxRecDepth 20000 in
theorem ggL_law_X6_heap : GoodIn wsL_law wsX6_heap := goodIn_r _ [349, 350, 65, 67, 129, 130, 131, 5, 132, 99, 100, 133, 134, 135, 136, 184, 185, 186, 187, 63, 141, 142, 143, 144, 64, 706, 707, 708, 709, 710, 711, 712, 713, 714, 715, 716, 717, 718, 719, 720, 721, 722, 723, 724] (by decide +kernel) (by decide +kernel)
set_option maxRecDepth 20000 in
theorem gL_law_X6_heap : GoodIn wsL_law (wsV RL 122 RX6 yX6_heap wsX6_heap) := goodIn_app (goodIn_of _ (by decide +kernel)) ggL_law_X6_heap
set_option maxRecDepth 20000 in
theorem ggL_law_L_set : GoodIn wsL_law wsL_set := goodIn_ca (goodIn_ca (goodIn_r _ [353, 105, 354, 355, 356, 357, 2, 358, 359, 360, 361, 362, 363, 364, 365, 366, 367, 115, 116, 19, 17, 117, 118, 119, 120, 741, 742, 743, 699, 700, 701, 702, 703, 704, 705, 737, 738, 739, 740] (by decide +kernel) (by decide +kernel)) (goodIn_sub (fun _ h => List.mem_append_right _ h) (by decide +kernel))) (goodIn_sub (fun _ h => List.mem_append_left _ (List.mem_append_left _ (List.mem_append_right _ h))) (by decide +kernel))
set_option maxRecDepth 20000 in
theorem gL_law_L_set : GoodIn wsL_law (va_wsS RL 123 yL_set wsL_set) := goodIn_app (goodIn_of _ (by decide +kernel)) ggL_law_L_set
set_option maxRecDepth 20000 in
theorem ggL_law_X6_set : GoodIn wsL_law wsX6_set := goodIn_r _ [371, 372, 68, 373, 374, 375, 5, 376, 99, 350, 133, 134, 135, 136, 377, 378, 379, 380, 381, 382, 383, 384, 63, 65, 706, 707, 708, 709, 710, 711, 712, 713, 714, 715, 716, 717, 718, 719, 720, 721, 722, 723, 724] (by decide +kernel) (by decide +kernel)
set_option maxRecDepth 20000 in
theorem gL_law_X6_set : GoodIn wsL_law (wsV RL 126 RX6 yX6_set wsX6_set) := goodIn_app (goodIn_of _ (by decide +kernel)) ggL_law_X6_set
set_option maxRecDepth 20000 in
theorem ggL_law_L_grains : GoodIn wsL_law wsL_grains := goodIn_ca (goodIn_r _ [387, 105, 388, 389, 390, 2, 391, 361, 363, 364, 365, 366, 367, 115, 116, 19, 17, 117, 118, 119, 120, 741, 742, 743, 699, 700, 701, 702, 703, 704, 705, 737, 738, 739, 740] (by decide +kernel) (by decide +kernel)) (goodIn_sub (fun _ h => List.mem_append_left _ (List.mem_append_left _ (List.mem_append_right _ h))) (by decide +kernel))
set_option maxRecDepth 20000 in
theorem gL_law_L_grains : GoodIn wsL_law (va_wsS RL 127 yL_grains wsL_grains) := goodIn_app (goodIn_of _ (by decide +kernel)) ggL_law_L_grains
set_option maxRecDepth 20000 in
theorem ggL_law_X6_grains : GoodIn wsL_law wsX6_grains := goodIn_r _ [395, 68, 373, 374, 375, 5, 376, 99, 350, 133, 134, 135, 136, 377, 378, 379, 380, 381, 382, 383, 384, 63, 65, 706, 707, 708, 709, 710, 711, 712, 713, 714, 715, 716, 717, 718, 719, 720, 721, 722, 723, 724] (by decide +kernel) (by decide +kernel)
set_option maxRecDepth 20000 in
theorem gL_law_X6_grains : GoodIn wsL_law (wsV RL 129 RX6 yX6_grains wsX6_grains) := goodIn_app (goodIn_of _ (by decide +kernel)) ggL_law_X6_grains
set_option maxRecDepth 20000 in
theorem ggL_law_L_topple : GoodIn wsL_law wsL_topple := goodIn_ca (goodIn_r _ [398, 105, 399, 400, 401, 2, 402, 361, 363, 156, 364, 365, 366, 367, 115, 116, 19, 17, 117, 118, 119, 120, 403, 404, 405, 85, 406, 93, 90, 92, 741, 742, 743, 737, 738, 739, 740, 699, 700, 701, 702, 703, 704, 705] (by decide +kernel) (by decide +kernel)) (goodIn_sub (fun _ h => List.mem_append_left _ (List.mem_append_left _ (List.mem_append_right _ h))) (by decide +kernel))
set_option maxRecDepth 20000 in
theorem gL_law_L_topple : GoodIn wsL_law (va_wsS RL 130 yL_topple wsL_topple) := goodIn_app (goodIn_of _ (by decide +kernel)) ggL_law_L_topple
set_option maxRecDepth 20000 in
theorem ggL_law_X6_topple : GoodIn wsL_law wsX6_topple := goodIn_r _ [410, 373, 374, 375, 5, 376, 99, 350, 133, 134, 135, 136, 377, 378, 379, 380, 381, 382, 383, 384, 63, 65, 411, 412, 413, 414, 68, 161, 162, 163, 164, 141, 142, 143, 144, 64, 415, 416, 417, 418, 706, 707, 708, 709, 710, 711, 712, 713, 714, 715, 716, 717, 718, 719, 720, 721, 722, 723, 724] (by decide +kernel) (by decide +kernel)
set_option maxRecDepth 20000 in
theorem gL_law_X6_topple : GoodIn wsL_law (wsV RL 132 RX6 yX6_topple wsX6_topple) := goodIn_app (goodIn_of _ (by decide +kernel)) ggL_law_X6_topple
set_option maxRecDepth 20000 in
theorem ggL_law_L_settle : GoodIn wsL_law wsL_settle := goodIn_ca (goodIn_r _ [421, 105, 422, 423, 424, 2, 425, 364, 365, 366, 367, 115, 116, 19, 17, 426, 427, 428, 338, 429, 343, 344, 345, 430, 431, 432, 85, 433, 434, 90, 435, 436, 437, 438, 439, 440, 441, 442, 93, 443, 404, 405, 406, 92, 699, 700, 701, 702, 703, 704, 705, 741, 742, 743, 737, 738, 739, 740] (by decide +kernel) (by decide +kernel)) (goodIn_sub (fun _ h => List.mem_append_left _ (List.mem_append_left _ (List.mem_append_right _ h))) (by decide +kernel))
set_option maxRecDepth 20000 in
theorem gL_law_L_settle : GoodIn wsL_law (va_wsS RL 133 yL_settle wsL_settle) := goodIn_app (goodIn_of _ (by decide +kernel)) ggL_law_L_settle
set_option maxRecDepth 20000 in
theorem ggL_law_X6_settle : GoodIn wsL_law wsX6_settle := goodIn_r _ [447, 373, 374, 375, 5, 376, 99, 350, 133, 134, 135, 136, 448, 449, 450, 451, 69, 68, 65, 452, 453, 454, 455, 381, 382, 383, 384, 63, 411, 412, 413, 414, 161, 162, 163, 164, 141, 142, 143, 144, 64, 415, 416, 417, 418, 706, 707, 708, 709, 710, 711, 712, 713, 714, 715, 716, 717, 718, 719, 720, 721, 722, 723, 724] (by decide +kernel) (by decide +kernel)
set_option maxRecDepth 20000 in
theorem gL_law_X6_settle : GoodIn wsL_law (wsV RL 135 RX6 yX6_settle wsX6_settle) := goodIn_app (goodIn_of _ (by decide +kernel)) ggL_law_X6_settle
set_option maxRecDepth 20000 in
theorem ggL_law_L_drop : GoodIn wsL_law wsL_drop := goodIn_ca (goodIn_r _ [458, 105, 459, 460, 461, 2, 462, 361, 363, 364, 365, 366, 367, 115, 116, 19, 17, 117, 118, 119, 120, 426, 427, 428, 338, 429, 343, 344, 345, 430, 431, 432, 85, 433, 434, 90, 435, 436, 437, 438, 439, 440, 441, 442, 93, 443, 404, 405, 406, 92, 741, 742, 743, 699, 700, 701, 702, 703, 704, 705, 737, 738, 739, 740] (by decide +kernel) (by decide +kernel)) (goodIn_sub (fun _ h => List.mem_append_left _ (List.mem_append_left _ (List.mem_append_right _ h))) (by decide +kernel))
set_option maxRecDepth 20000 in
theorem gL_law_L_drop : GoodIn wsL_law (va_wsS RL 136 yL_drop wsL_drop) := goodIn_app (goodIn_of _ (by decide +kernel)) ggL_law_L_drop
set_option maxRecDepth 20000 in
theorem ggL_law_X6_drop : GoodIn wsL_law wsX6_drop := goodIn_r _ [466, 68, 373, 374, 375, 5, 376, 99, 350, 133, 134, 135, 136, 377, 378, 379, 380, 381, 382, 383, 384, 63, 65, 448, 449, 450, 451, 69, 452, 453, 454, 455, 411, 412, 413, 414, 161, 162, 163, 164, 141, 142, 143, 144, 64, 415, 416, 417, 418, 706, 707, 708, 709, 710, 711, 712, 713, 714, 715, 716, 717, 718, 719, 720, 721, 722, 723, 724] (by decide +kernel) (by decide +kernel)
set_option maxRecDepth 20000 in
theorem gL_law_X6_drop : GoodIn wsL_law (wsV RL 138 RX6 yX6_drop wsX6_drop) := goodIn_app (goodIn_of _ (by decide +kernel)) ggL_law_X6_drop
set_option maxRecDepth 20000 in
theorem ggL_law_L_toppled : GoodIn wsL_law wsL_toppled := goodIn_ca (goodIn_r _ [469, 105, 470, 471, 472, 2, 473, 361, 474, 364, 365, 366, 367, 115, 116, 19, 17, 117, 118, 119, 120, 741, 742, 743, 699, 700, 701, 702, 703, 704, 705, 737, 738, 739, 740] (by decide +kernel) (by decide +kernel)) (goodIn_sub (fun _ h => List.mem_append_left _ (List.mem_append_left _ (List.mem_append_right _ h))) (by decide +kernel))
set_option maxRecDepth 20000 in
theorem gL_law_L_toppled : GoodIn wsL_law (va_wsS RL 139 yL_toppled wsL_toppled) := goodIn_app (goodIn_of _ (by decide +kernel)) ggL_law_L_toppled
set_option maxRecDepth 20000 in
theorem ggL_law_X6_toppled : GoodIn wsL_law wsX6_toppled := goodIn_r _ [478, 69, 373, 374, 375, 5, 376, 99, 350, 133, 134, 135, 136, 377, 378, 379, 380, 381, 382, 383, 384, 63, 65, 706, 707, 708, 709, 710, 711, 712, 713, 714, 715, 716, 717, 718, 719, 720, 721, 722, 723, 724] (by decide +kernel) (by decide +kernel)
set_option maxRecDepth 20000 in
theorem gL_law_X6_toppled : GoodIn wsL_law (wsV RL 141 RX6 yX6_toppled wsX6_toppled) := goodIn_app (goodIn_of _ (by decide +kernel)) ggL_law_X6_toppled
set_option maxRecDepth 20000 in
theorem ggL_law_L_is : GoodIn wsL_law wsL_is := goodIn_ca (goodIn_r _ [481, 105, 482, 483, 484, 2, 485, 115, 116, 361, 363, 23, 364, 365, 366, 367, 19, 17, 486, 487, 488, 85, 489, 90, 93, 490, 491, 492, 22, 493, 37, 494, 495, 496, 437, 497, 498, 499, 500, 501, 502, 503, 504, 505, 506, 507, 508, 741, 742, 743, 699, 700, 701, 702, 703, 704, 705, 737, 738, 739, 740, 725] (by decide +kernel) (by decide +kernel)) (goodIn_sub (fun _ h => List.mem_append_left _ (List.mem_append_left _ (List.mem_append_right _ h))) (by decide +kernel))
set_option maxRecDepth 20000 in
theorem gL_law_L_is : GoodIn wsL_law (va_wsS RL 142 yL_is wsL_is) := goodIn_app (goodIn_of _ (by decide +kernel)) ggL_law_L_is
set_option maxRecDepth 20000 in
theorem ggL_law_X6_is : GoodIn wsL_law wsX6_is := goodIn_r _ [512, 373, 374, 375, 5, 376, 99, 350, 133, 134, 135, 136, 452, 453, 454, 455, 381, 382, 383, 384, 63, 65, 411, 412, 413, 414, 68, 161, 162, 163, 164, 141, 142, 143, 144, 64, 513, 514, 515, 516, 517, 518, 519, 520, 72, 706, 707, 708, 709, 710, 711, 712, 713, 714, 715, 716, 717, 718, 719, 720, 721, 722, 723, 724] (by decide +kernel) (by decide +kernel)
set_option maxRecDepth 20000 in
theorem gL_law_X6_is : GoodIn wsL_law (wsV RL 144 RX6 yX6_is wsX6_is) := goodIn_app (goodIn_of _ (by decide +kernel)) ggL_law_X6_is
set_option maxRecDepth 20000 in
theorem ggL_law_L_burns : GoodIn wsL_law wsL_burns := goodIn_ca (goodIn_r _ [523, 105, 524, 525, 526, 2, 527, 361, 23, 363, 528, 364, 365, 366, 367, 115, 116, 19, 17, 117, 118, 119, 120, 490, 491, 492, 22, 493, 37, 494, 495, 496, 437, 497, 498, 487, 488, 85, 489, 90, 93, 499, 500, 501, 502, 503, 504, 505, 506, 507, 508, 741, 742, 743, 699, 700, 701, 702, 703, 704, 705, 725, 737, 738, 739, 740] (by decide +kernel) (by decide +kernel)) (goodIn_sub (fun _ h => List.mem_append_left _ (List.mem_append_left _ (List.mem_append_right _ h))) (by decide +kernel))
set_option maxRecDepth 20000 in
theorem gL_law_L_burns : GoodIn wsL_law (va_wsS RL 145 yL_burns wsL_burns) := goodIn_app (goodIn_of _ (by decide +kernel)) ggL_law_L_burns
set_option maxRecDepth 20000 in
theorem ggL_law_X6_burns : GoodIn wsL_law wsX6_burns := goodIn_r _ [532, 72, 373, 374, 375, 5, 376, 99, 350, 133, 134, 135, 136, 377, 378, 379, 380, 381, 382, 383, 384, 63, 65, 452, 453, 454, 455, 411, 412, 413, 414, 68, 161, 162, 163, 164, 141, 142, 143, 144, 64, 517, 518, 519, 520, 706, 707, 708, 709, 710, 711, 712, 713, 714, 715, 716, 717, 718, 719, 720, 721, 722, 723, 724] (by decide +kernel) (by decide +kernel)
set_option maxRecDepth 20000 in
theorem gL_law_X6_burns : GoodIn wsL_law (wsV RL 147 RX6 yX6_burns wsX6_burns) := goodIn_app (goodIn_of _ (by decide +kernel)) ggL_law_X6_burns
set_option maxRecDepth 20000 in
theorem ggL_law_L_add : GoodIn wsL_law wsL_add := goodIn_ca (goodIn_ca (goodIn_r _ [535, 105, 354, 536, 537, 538, 2, 539, 361, 120, 363, 364, 365, 366, 367, 115, 116, 19, 17, 540, 541, 542, 359, 360, 426, 427, 428, 338, 429, 343, 344, 345, 430, 431, 432, 85, 433, 434, 90, 435, 436, 437, 438, 439, 440, 441, 442, 93, 443, 404, 405, 406, 92, 741, 742, 743, 737, 738, 739, 740, 699, 700, 701, 702, 703, 704, 705] (by decide +kernel) (by decide +kernel)) (goodIn_sub (fun _ h => List.mem_append_left _ (List.mem_append_left _ (List.mem_append_right _ h))) (by decide +kernel))) (goodIn_sub (fun _ h => List.mem_append_right _ h) (by decide +kernel))
set_option maxRecDepth 20000 in
theorem gL_law_L_add : GoodIn wsL_law (va_wsS RL 148 yL_add wsL_add) := goodIn_app (goodIn_of _ (by decide +kernel)) ggL_law_L_add
set_option maxRecDepth 20000 in
theorem ggL_law_X6_add : GoodIn wsL_law wsX6_add := goodIn_r _ [546, 350, 65, 68, 373, 374, 375, 5, 376, 99, 133, 134, 135, 136, 381, 382, 383, 384, 63, 448, 449, 450, 451, 69, 452, 453, 454, 455, 411, 412, 413, 414, 161, 162, 163, 164, 141, 142, 143, 144, 64, 415, 416, 417, 418, 706, 707, 708, 709, 710, 711, 712, 713, 714, 715, 716, 717, 718, 719, 720, 721, 722, 723, 724] (by decide +kernel) (by decide +kernel)
set_option maxRecDepth 20000 in
theorem gL_law_X6_add : GoodIn wsL_law (wsV RL 150 RX6 yX6_add wsX6_add) := goodIn_app (goodIn_of _ (by decide +kernel)) ggL_law_X6_add
set_option maxRecDepth 20000 in
theorem ggL_law_L_become : GoodIn wsL_law wsL_become := goodIn_ca (goodIn_r _ [549, 105, 550, 551, 552, 2, 553, 115, 116, 27, 361, 363, 364, 365, 366, 367, 19, 17, 554, 555, 556, 26, 557, 42, 558, 559, 560, 338, 561, 343, 562, 344, 563, 564, 565, 566, 204, 43, 209, 567, 568, 569, 570, 44, 46, 571, 572, 573, 574, 575, 576, 577, 431, 432, 85, 433, 434, 90, 435, 436, 437, 438, 439, 440, 441, 442, 93, 443, 404, 405, 406, 92, 578, 579, 580, 581, 45, 582, 583, 584, 585, 699, 700, 701, 702, 703, 704, 705, 741, 742, 743, 726, 727, 728, 729, 730, 731, 737, 738, 739, 740] (by decide +kernel) (by decide +kernel)) (goodIn_sub (fun _ h => List.mem_append_left _ (List.mem_append_left _ (List.mem_append_right _ h))) (by decide +kernel))
set_option maxRecDepth 20000 in
theorem gL_law_L_become : GoodIn wsL_law (va_wsS RL 151 yL_become wsL_become) := goodIn_app (goodIn_of _ (by decide +kernel)) ggL_law_L_become
set_option maxRecDepth 20000 in
theorem ggL_law_X6_become : GoodIn wsL_law wsX6_become := goodIn_r _ [589, 73, 68, 74, 69, 65, 373, 374, 375, 5, 376, 99, 350, 133, 134, 135, 136, 381, 382, 383, 384, 63, 590, 591, 592, 593, 161, 162, 163, 164, 141, 142, 143, 144, 64, 594, 595, 596, 597, 76, 75, 598, 448, 449, 450, 451, 452, 453, 454, 455, 411, 412, 413, 414, 415, 416, 417, 418, 599, 600, 601, 602, 706, 707, 708, 709, 710, 711, 712, 713, 714, 715, 716, 717, 718, 719, 720, 721, 722, 723, 724] (by decide +kernel) (by decide +kernel)
set_option maxRecDepth 20000 in
theorem gL_law_X6_become : GoodIn wsL_law (wsV RL 154 RX6 yX6_become wsX6_become) := goodIn_app (goodIn_of _ (by decide +kernel)) ggL_law_X6_become
set_option maxRecDepth 20000 in
theorem ggL_law_L_alike : GoodIn wsL_law wsL_alike := goodIn_ca (goodIn_ca (goodIn_r _ [605, 105, 354, 606, 607, 608, 2, 609, 27, 361, 363, 364, 365, 366, 367, 115, 116, 19, 17, 540, 541, 542, 359, 360, 610, 611, 612, 26, 613, 45, 582, 583, 584, 585, 46, 44, 204, 48, 577, 431, 432, 85, 433, 434, 90, 435, 436, 437, 438, 439, 440, 441, 442, 93, 443, 404, 405, 406, 92, 200, 201, 202, 203, 205, 206, 207, 208, 209, 210, 211, 212, 213, 214, 299, 300, 301, 302, 260, 303, 699, 700, 701, 702, 703, 704, 705, 741, 742, 743, 726, 727, 728, 729, 730, 731, 737, 738, 739, 740] (by decide +kernel) (by decide +kernel)) (goodIn_sub (fun _ h => List.mem_append_left _ (List.mem_append_left _ (List.mem_append_right _ h))) (by decide +kernel))) (goodIn_sub (fun _ h => List.mem_append_right _ h) (by decide +kernel))
set_option maxRecDepth 20000 in
theorem gL_law_L_alike : GoodIn wsL_law (va_wsS RL 155 yL_alike wsL_alike) := goodIn_app (goodIn_of _ (by decide +kernel)) ggL_law_L_alike
set_option maxRecDepth 20000 in
theorem ggL_law_X6_alike : GoodIn wsL_law wsX6_alike := goodIn_r _ [617, 350, 65, 63, 373, 374, 375, 5, 376, 99, 133, 134, 135, 136, 219, 220, 221, 222, 223, 224, 225, 226, 227, 228, 229, 230, 70, 231, 232, 233, 234, 161, 162, 163, 164, 141, 142, 143, 144, 64, 235, 236, 237, 238, 239, 240, 241, 242, 618, 619, 620, 621, 68, 622, 706, 707, 708, 709, 710, 711, 712, 713, 714, 715, 716, 717, 718, 719, 720, 721, 722, 723, 724] (by decide +kernel) (by decide +kernel)
set_option maxRecDepth 20000 in
theorem gL_law_X6_alike : GoodIn wsL_law (wsV RL 157 RX6 yX6_alike wsX6_alike) := goodIn_app (goodIn_of _ (by decide +kernel)) ggL_law_X6_alike
set_option maxRecDepth 20000 in
theorem ggL_law_L_order : GoodIn wsL_law wsL_order := goodIn_ca (goodIn_r _ [625, 105, 626, 627, 628, 2, 629, 27, 361, 363, 364, 365, 366, 367, 115, 116, 19, 17, 554, 555, 556, 26, 557, 42, 610, 611, 612, 613, 45, 582, 583, 584, 585, 46, 44, 204, 48, 577, 431, 432, 85, 433, 434, 90, 435, 436, 437, 438, 439, 440, 441, 442, 93, 443, 404, 405, 406, 92, 200, 201, 202, 203, 205, 206, 207, 208, 209, 210, 211, 212, 213, 214, 299, 300, 301, 302, 260, 303, 699, 700, 701, 702, 703, 704, 705, 741, 742, 743, 726, 727, 728, 729, 730, 731, 737, 738, 739, 740] (by decide +kernel) (by decide +kernel)) (goodIn_sub (fun _ h => List.mem_append_left _ (List.mem_append_left _ (List.mem_append_right _ h))) (by decide +kernel))
set_option maxRecDepth 20000 in
theorem gL_law_L_order : GoodIn wsL_law (va_wsS RL 158 yL_order wsL_order) := goodIn_app (goodIn_of _ (by decide +kernel)) ggL_law_L_order
set_option maxRecDepth 20000 in
theorem ggL_law_X6_order : GoodIn wsL_law wsX6_order := goodIn_r _ [633, 65, 63, 373, 374, 375, 5, 376, 99, 350, 133, 134, 135, 136, 219, 220, 221, 222, 223, 224, 225, 226, 227, 228, 229, 230, 70, 231, 232, 233, 234, 161, 162, 163, 164, 141, 142, 143, 144, 64, 235, 236, 237, 238, 239, 240, 241, 242, 618, 619, 620, 621, 68, 622, 327, 328, 329, 706, 707, 708, 709, 710, 711, 712, 713, 714, 715, 716, 717, 718, 719, 720, 721, 722, 723, 724] (by decide +kernel) (by decide +kernel)
set_option maxRecDepth 20000 in
theorem gL_law_X6_order : GoodIn wsL_law (wsV RL 160 RX6 yX6_order wsX6_order) := goodIn_app (goodIn_of _ (by decide +kernel)) ggL_law_X6_order
set_option maxRecDepth 20000 in
theorem ggL_law_L_tree : GoodIn wsL_law wsL_tree := goodIn_ca (goodIn_ca (goodIn_r _ [636, 105, 246, 637, 638, 639, 2, 640, 115, 116, 251, 252, 361, 23, 363, 364, 365, 366, 367, 19, 17, 117, 118, 119, 120, 490, 491, 492, 22, 493, 37, 494, 495, 496, 437, 497, 498, 487, 488, 85, 489, 90, 93, 499, 500, 501, 502, 503, 504, 505, 506, 507, 508, 641, 642, 643, 644, 645, 646, 647, 648, 649, 650, 651, 652, 653, 741, 742, 743, 699, 700, 701, 702, 703, 704, 705, 737, 738, 739, 740, 725] (by decide +kernel) (by decide +kernel)) (goodIn_sub (fun _ h => List.mem_append_left _ (List.mem_append_left _ (List.mem_append_right _ h))) (by decide +kernel))) (goodIn_sub (fun _ h => List.mem_append_left _ (List.mem_append_right _ h)) (by decide +kernel))
set_option maxRecDepth 20000 in
theorem gL_law_L_tree : GoodIn wsL_law (va_wsS RL 161 yL_tree wsL_tree) := goodIn_app (goodIn_of _ (by decide +kernel)) ggL_law_L_tree
set_option maxRecDepth 20000 in
theorem ggL_law_X6_tree : GoodIn wsL_law wsX6_tree := goodIn_r _ [657, 65, 72, 68, 373, 374, 375, 5, 376, 99, 350, 133, 134, 135, 136, 377, 378, 379, 380, 381, 382, 383, 384, 63, 513, 514, 515, 516, 452, 453, 454, 455, 411, 412, 413, 414, 161, 162, 163, 164, 141, 142, 143, 144, 64, 517, 518, 519, 520, 706, 707, 708, 709, 710, 711, 712, 713, 714, 715, 716, 717, 718, 719, 720, 721, 722, 723, 724] (by decide +kernel) (by decide +kernel)
set_option maxRecDepth 20000 in
theorem gL_law_X6_tree : GoodIn wsL_law (wsV RL 163 RX6 yX6_tree wsX6_tree) := goodIn_app (goodIn_of _ (by decide +kernel)) ggL_law_X6_tree
set_option maxRecDepth 20000 in
theorem ggL_law_L_grow : GoodIn wsL_law wsL_grow := goodIn_ca (goodIn_r _ [660, 105, 661, 662, 663, 2, 664, 23, 361, 120, 363, 364, 365, 366, 367, 115, 116, 19, 17, 665, 666, 667, 22, 668, 37, 494, 504, 495, 496, 437, 497, 669, 670, 671, 672, 673, 674, 505, 506, 507, 508, 675, 676, 677, 678, 645, 646, 647, 648, 499, 500, 501, 502, 503, 699, 700, 701, 702, 703, 704, 705, 741, 742, 743, 737, 738, 739, 740, 725] (by decide +kernel) (by decide +kernel)) (goodIn_sub (fun _ h => List.mem_append_left _ (List.mem_append_left _ (List.mem_append_right _ h))) (by decide +kernel))
set_option maxRecDepth 20000 in
theorem gL_law_L_grow : GoodIn wsL_law (va_wsS RL 166 yL_grow wsL_grow) := goodIn_app (goodIn_of _ (by decide +kernel)) ggL_law_L_grow
set_option maxRecDepth 20000 in
theorem ggL_law_X6_grow : GoodIn wsL_law wsX6_grow := goodIn_r _ [682, 65, 683, 77, 78, 79, 373, 374, 375, 5, 376, 99, 350, 133, 134, 135, 136, 381, 382, 383, 384, 63, 141, 142, 143, 144, 64, 684, 685, 686, 687, 161, 162, 163, 164, 590, 591, 592, 593, 68, 706, 707, 708, 709, 710, 711, 712, 713, 714, 715, 716, 717, 718, 719, 720, 721, 722, 723, 724] (by decide +kernel) (by decide +kernel)
set_option maxRecDepth 20000 in
theorem gL_law_X6_grow : GoodIn wsL_law (wsV RL 169 RX6 yX6_grow wsX6_grow) := goodIn_app (goodIn_of _ (by decide +kernel)) ggL_law_X6_grow
set_option maxRecDepth 20000 in
theorem ggL_law_L_count : GoodIn wsL_law wsL_count := goodIn_ca (goodIn_r _ [690, 105, 691, 692, 693, 2, 694, 115, 116, 18, 19, 699, 700, 701, 702, 703, 704, 705] (by decide +kernel) (by decide +kernel)) (goodIn_sub (fun _ h => List.mem_append_left _ (List.mem_append_left _ (List.mem_append_right _ h))) (by decide +kernel))
set_option maxRecDepth 20000 in
theorem gL_law_L_count : GoodIn wsL_law (va_wsS RL 170 yL_count wsL_count) := goodIn_app (goodIn_of _ (by decide +kernel)) ggL_law_L_count
set_option maxRecDepth 20000 in
theorem ggL_law_X6_count : GoodIn wsL_law wsX6_count := goodIn_r _ [698, 99, 100, 350, 133, 134, 135, 5, 136, 706, 707, 708, 709, 710, 711, 712, 713, 714, 715, 716, 717, 718, 719, 720, 721, 722, 723, 724] (by decide +kernel) (by decide +kernel)
set_option maxRecDepth 20000 in
theorem gL_law_X6_count : GoodIn wsL_law (wsV RL 172 RX6 yX6_count wsX6_count) := goodIn_app (goodIn_of _ (by decide +kernel)) ggL_law_X6_count
theorem dL_law_0 : decode cL_law 0 = .ok (.new 8, 3) := by decide +kernel
theorem dL_law_3 : decode cL_law 3 = .ok (.dup, 1) := by decide +kernel
theorem dL_law_4 : decode cL_law 4 = .ok (.invokespecial 88, 3) := by decide +kernel
theorem dL_law_7 : decode cL_law 7 = .ok (.astore_n 1, 1) := by decide +kernel
theorem dL_law_8 : decode cL_law 8 = .ok (.new 89, 3) := by decide +kernel
theorem dL_law_11 : decode cL_law 11 = .ok (.dup, 1) := by decide +kernel
theorem dL_law_12 : decode cL_law 12 = .ok (.invokespecial 91, 3) := by decide +kernel
theorem dL_law_15 : decode cL_law 15 = .ok (.astore_n 2, 1) := by decide +kernel
theorem dL_law_16 : decode cL_law 16 = .ok (.iconst 1, 1) := by decide +kernel
theorem dL_law_17 : decode cL_law 17 = .ok (.newarray .long, 2) := by decide +kernel
theorem dL_law_19 : decode cL_law 19 = .ok (.astore_n 3, 1) := by decide +kernel
theorem dL_law_20 : decode cL_law 20 = .ok (.iconst 0, 1) := by decide +kernel
theorem dL_law_21 : decode cL_law 21 = .ok (.istore 4, 2) := by decide +kernel
theorem dL_law_23 : decode cL_law 23 = .ok (.iload 4, 2) := by decide +kernel
theorem dL_law_25 : decode cL_law 25 = .ok (.aload_n 0, 1) := by decide +kernel
theorem dL_law_26 : decode cL_law 26 = .ok (.arraylength, 1) := by decide +kernel
theorem dL_law_27 : decode cL_law 27 = .ok (.iconst 5, 1) := by decide +kernel
theorem dL_law_28 : decode cL_law 28 = .ok (.isub, 1) := by decide +kernel
theorem dL_law_29 : decode cL_law 29 = .ok (.if_icmp .gt 1585, 3) := by decide +kernel
theorem dL_law_32 : decode cL_law 32 = .ok (.aload_n 0, 1) := by decide +kernel
theorem dL_law_33 : decode cL_law 33 = .ok (.iload 4, 2) := by decide +kernel
theorem dL_law_35 : decode cL_law 35 = .ok (.iaload, 1) := by decide +kernel
theorem dL_law_36 : decode cL_law 36 = .ok (.bipush 31, 2) := by decide +kernel
theorem dL_law_38 : decode cL_law 38 = .ok (.iand, 1) := by decide +kernel
theorem dL_law_39 : decode cL_law 39 = .ok (.tableswitch 1569 0 21 #[101, 126, 218, 286, 349, 404, 471, 527, 607, 674, 749, 804, 871, 938, 1013, 1081, 1148, 1196, 1271, 1326, 1406, 1513], 101) := by decide +kernel
theorem dL_law_140 : decode cL_law 140 = .ok (.aload_n 1, 1) := by decide +kernel
theorem dL_law_141 : decode cL_law 141 = .ok (.aload_n 0, 1) := by decide +kernel
theorem dL_law_142 : decode cL_law 142 = .ok (.iload 4, 2) := by decide +kernel
theorem dL_law_144 : decode cL_law 144 = .ok (.iconst 1, 1) := by decide +kernel
theorem dL_law_145 : decode cL_law 145 = .ok (.iadd, 1) := by decide +kernel
theorem dL_law_146 : decode cL_law 146 = .ok (.iaload, 1) := by decide +kernel
theorem dL_law_147 : decode cL_law 147 = .ok (.invokevirtual 92, 3) := by decide +kernel
theorem dL_law_150 : decode cL_law 150 = .ok (.aload_n 2, 1) := by decide +kernel
theorem dL_law_151 : decode cL_law 151 = .ok (.aload_n 0, 1) := by decide +kernel
theorem dL_law_152 : decode cL_law 152 = .ok (.iload 4, 2) := by decide +kernel
theorem dL_law_154 : decode cL_law 154 = .ok (.iconst 1, 1) := by decide +kernel
theorem dL_law_155 : decode cL_law 155 = .ok (.iadd, 1) := by decide +kernel
theorem dL_law_156 : decode cL_law 156 = .ok (.iaload, 1) := by decide +kernel
theorem dL_law_157 : decode cL_law 157 = .ok (.invokevirtual 95, 3) := by decide +kernel
theorem dL_law_160 : decode cL_law 160 = .ok (.if_icmp .eq 1448, 3) := by decide +kernel
theorem dL_law_163 : decode cL_law 163 = .ok (.iconst 0, 1) := by decide +kernel
theorem dL_law_164 : decode cL_law 164 = .ok (.ireturn, 1) := by decide +kernel
theorem dL_law_165 : decode cL_law 165 = .ok (.aload_n 1, 1) := by decide +kernel
theorem dL_law_166 : decode cL_law 166 = .ok (.aload_n 0, 1) := by decide +kernel
theorem dL_law_167 : decode cL_law 167 = .ok (.iload 4, 2) := by decide +kernel
theorem dL_law_169 : decode cL_law 169 = .ok (.iconst 1, 1) := by decide +kernel
theorem dL_law_170 : decode cL_law 170 = .ok (.iadd, 1) := by decide +kernel
theorem dL_law_171 : decode cL_law 171 = .ok (.iaload, 1) := by decide +kernel
theorem dL_law_172 : decode cL_law 172 = .ok (.aload_n 0, 1) := by decide +kernel
theorem dL_law_173 : decode cL_law 173 = .ok (.iload 4, 2) := by decide +kernel
theorem dL_law_175 : decode cL_law 175 = .ok (.iconst 2, 1) := by decide +kernel
theorem dL_law_176 : decode cL_law 176 = .ok (.iadd, 1) := by decide +kernel
theorem dL_law_177 : decode cL_law 177 = .ok (.iaload, 1) := by decide +kernel
theorem dL_law_178 : decode cL_law 178 = .ok (.aload_n 0, 1) := by decide +kernel
theorem dL_law_179 : decode cL_law 179 = .ok (.iload 4, 2) := by decide +kernel
theorem dL_law_181 : decode cL_law 181 = .ok (.iconst 3, 1) := by decide +kernel
theorem dL_law_182 : decode cL_law 182 = .ok (.iadd, 1) := by decide +kernel
theorem dL_law_183 : decode cL_law 183 = .ok (.iaload, 1) := by decide +kernel
theorem dL_law_184 : decode cL_law 184 = .ok (.aload_n 0, 1) := by decide +kernel
theorem dL_law_185 : decode cL_law 185 = .ok (.iload 4, 2) := by decide +kernel
theorem dL_law_187 : decode cL_law 187 = .ok (.iconst 4, 1) := by decide +kernel
theorem dL_law_188 : decode cL_law 188 = .ok (.iadd, 1) := by decide +kernel
theorem dL_law_189 : decode cL_law 189 = .ok (.iaload, 1) := by decide +kernel
theorem dL_law_190 : decode cL_law 190 = .ok (.aload_n 3, 1) := by decide +kernel
theorem dL_law_191 : decode cL_law 191 = .ok (.invokestatic 96, 3) := by decide +kernel
theorem dL_law_194 : decode cL_law 194 = .ok (.istore 5, 2) := by decide +kernel
theorem dL_law_196 : decode cL_law 196 = .ok (.aload_n 2, 1) := by decide +kernel
theorem dL_law_197 : decode cL_law 197 = .ok (.aload_n 0, 1) := by decide +kernel
theorem dL_law_198 : decode cL_law 198 = .ok (.iload 4, 2) := by decide +kernel
theorem dL_law_200 : decode cL_law 200 = .ok (.iconst 1, 1) := by decide +kernel
theorem dL_law_201 : decode cL_law 201 = .ok (.iadd, 1) := by decide +kernel
theorem dL_law_202 : decode cL_law 202 = .ok (.iaload, 1) := by decide +kernel
theorem dL_law_203 : decode cL_law 203 = .ok (.aload_n 0, 1) := by decide +kernel
theorem dL_law_204 : decode cL_law 204 = .ok (.iload 4, 2) := by decide +kernel
theorem dL_law_206 : decode cL_law 206 = .ok (.iconst 2, 1) := by decide +kernel
theorem dL_law_207 : decode cL_law 207 = .ok (.iadd, 1) := by decide +kernel
theorem dL_law_208 : decode cL_law 208 = .ok (.iaload, 1) := by decide +kernel
theorem dL_law_209 : decode cL_law 209 = .ok (.aload_n 0, 1) := by decide +kernel
theorem dL_law_210 : decode cL_law 210 = .ok (.iload 4, 2) := by decide +kernel
theorem dL_law_212 : decode cL_law 212 = .ok (.iconst 3, 1) := by decide +kernel
theorem dL_law_213 : decode cL_law 213 = .ok (.iadd, 1) := by decide +kernel
theorem dL_law_214 : decode cL_law 214 = .ok (.iaload, 1) := by decide +kernel
theorem dL_law_215 : decode cL_law 215 = .ok (.aload_n 0, 1) := by decide +kernel
theorem dL_law_216 : decode cL_law 216 = .ok (.iload 4, 2) := by decide +kernel
theorem dL_law_218 : decode cL_law 218 = .ok (.iconst 4, 1) := by decide +kernel
theorem dL_law_219 : decode cL_law 219 = .ok (.iadd, 1) := by decide +kernel
theorem dL_law_220 : decode cL_law 220 = .ok (.iaload, 1) := by decide +kernel
theorem dL_law_221 : decode cL_law 221 = .ok (.invokevirtual 101, 3) := by decide +kernel
theorem dL_law_224 : decode cL_law 224 = .ok (.istore 6, 2) := by decide +kernel
theorem dL_law_226 : decode cL_law 226 = .ok (.aload_n 2, 1) := by decide +kernel
theorem dL_law_227 : decode cL_law 227 = .ok (.invokevirtual 102, 3) := by decide +kernel
theorem dL_law_230 : decode cL_law 230 = .ok (.iload 5, 2) := by decide +kernel
theorem dL_law_232 : decode cL_law 232 = .ok (.if_icmp .eq 5, 3) := by decide +kernel
theorem dL_law_235 : decode cL_law 235 = .ok (.iconst 0, 1) := by decide +kernel
theorem dL_law_236 : decode cL_law 236 = .ok (.ireturn, 1) := by decide +kernel
theorem dL_law_237 : decode cL_law 237 = .ok (.iload 5, 2) := by decide +kernel
theorem dL_law_239 : decode cL_law 239 = .ok (.ifCond .ne 15, 3) := by decide +kernel
theorem dL_law_242 : decode cL_law 242 = .ok (.aload_n 3, 1) := by decide +kernel
theorem dL_law_243 : decode cL_law 243 = .ok (.iconst 0, 1) := by decide +kernel
theorem dL_law_244 : decode cL_law 244 = .ok (.laload, 1) := by decide +kernel
theorem dL_law_245 : decode cL_law 245 = .ok (.iload 6, 2) := by decide +kernel
theorem dL_law_247 : decode cL_law 247 = .ok (.i2l, 1) := by decide +kernel
theorem dL_law_248 : decode cL_law 248 = .ok (.lcmp, 1) := by decide +kernel
theorem dL_law_249 : decode cL_law 249 = .ok (.ifCond .eq 5, 3) := by decide +kernel
theorem dL_law_252 : decode cL_law 252 = .ok (.iconst 0, 1) := by decide +kernel
theorem dL_law_253 : decode cL_law 253 = .ok (.ireturn, 1) := by decide +kernel
theorem dL_law_254 : decode cL_law 254 = .ok (.goto 1354, 3) := by decide +kernel
theorem dL_law_257 : decode cL_law 257 = .ok (.aload_n 1, 1) := by decide +kernel
theorem dL_law_258 : decode cL_law 258 = .ok (.aload_n 0, 1) := by decide +kernel
theorem dL_law_259 : decode cL_law 259 = .ok (.iload 4, 2) := by decide +kernel
theorem dL_law_261 : decode cL_law 261 = .ok (.iconst 1, 1) := by decide +kernel
theorem dL_law_262 : decode cL_law 262 = .ok (.iadd, 1) := by decide +kernel
theorem dL_law_263 : decode cL_law 263 = .ok (.iaload, 1) := by decide +kernel
theorem dL_law_264 : decode cL_law 264 = .ok (.aload_n 0, 1) := by decide +kernel
theorem dL_law_265 : decode cL_law 265 = .ok (.iload 4, 2) := by decide +kernel
theorem dL_law_267 : decode cL_law 267 = .ok (.iconst 2, 1) := by decide +kernel
theorem dL_law_268 : decode cL_law 268 = .ok (.iadd, 1) := by decide +kernel
theorem dL_law_269 : decode cL_law 269 = .ok (.iaload, 1) := by decide +kernel
theorem dL_law_270 : decode cL_law 270 = .ok (.aload_n 3, 1) := by decide +kernel
theorem dL_law_271 : decode cL_law 271 = .ok (.invokestatic 106, 3) := by decide +kernel
theorem dL_law_274 : decode cL_law 274 = .ok (.istore 5, 2) := by decide +kernel
theorem dL_law_276 : decode cL_law 276 = .ok (.aload_n 2, 1) := by decide +kernel
theorem dL_law_277 : decode cL_law 277 = .ok (.aload_n 0, 1) := by decide +kernel
theorem dL_law_278 : decode cL_law 278 = .ok (.iload 4, 2) := by decide +kernel
theorem dL_law_280 : decode cL_law 280 = .ok (.iconst 1, 1) := by decide +kernel
theorem dL_law_281 : decode cL_law 281 = .ok (.iadd, 1) := by decide +kernel
theorem dL_law_282 : decode cL_law 282 = .ok (.iaload, 1) := by decide +kernel
theorem dL_law_283 : decode cL_law 283 = .ok (.aload_n 0, 1) := by decide +kernel
theorem dL_law_284 : decode cL_law 284 = .ok (.iload 4, 2) := by decide +kernel
theorem dL_law_286 : decode cL_law 286 = .ok (.iconst 2, 1) := by decide +kernel
theorem dL_law_287 : decode cL_law 287 = .ok (.iadd, 1) := by decide +kernel
theorem dL_law_288 : decode cL_law 288 = .ok (.iaload, 1) := by decide +kernel
theorem dL_law_289 : decode cL_law 289 = .ok (.invokevirtual 109, 3) := by decide +kernel
theorem dL_law_292 : decode cL_law 292 = .ok (.istore 6, 2) := by decide +kernel
theorem dL_law_294 : decode cL_law 294 = .ok (.aload_n 2, 1) := by decide +kernel
theorem dL_law_295 : decode cL_law 295 = .ok (.invokevirtual 102, 3) := by decide +kernel
theorem dL_law_298 : decode cL_law 298 = .ok (.iload 5, 2) := by decide +kernel
theorem dL_law_300 : decode cL_law 300 = .ok (.if_icmp .eq 5, 3) := by decide +kernel
theorem dL_law_303 : decode cL_law 303 = .ok (.iconst 0, 1) := by decide +kernel
theorem dL_law_304 : decode cL_law 304 = .ok (.ireturn, 1) := by decide +kernel
theorem dL_law_305 : decode cL_law 305 = .ok (.iload 5, 2) := by decide +kernel
theorem dL_law_307 : decode cL_law 307 = .ok (.ifCond .ne 15, 3) := by decide +kernel
theorem dL_law_310 : decode cL_law 310 = .ok (.aload_n 3, 1) := by decide +kernel
theorem dL_law_311 : decode cL_law 311 = .ok (.iconst 0, 1) := by decide +kernel
theorem dL_law_312 : decode cL_law 312 = .ok (.laload, 1) := by decide +kernel
theorem dL_law_313 : decode cL_law 313 = .ok (.iload 6, 2) := by decide +kernel
theorem dL_law_315 : decode cL_law 315 = .ok (.i2l, 1) := by decide +kernel
theorem dL_law_316 : decode cL_law 316 = .ok (.lcmp, 1) := by decide +kernel
theorem dL_law_317 : decode cL_law 317 = .ok (.ifCond .eq 5, 3) := by decide +kernel
theorem dL_law_320 : decode cL_law 320 = .ok (.iconst 0, 1) := by decide +kernel
theorem dL_law_321 : decode cL_law 321 = .ok (.ireturn, 1) := by decide +kernel
theorem dL_law_322 : decode cL_law 322 = .ok (.goto 1286, 3) := by decide +kernel
theorem dL_law_325 : decode cL_law 325 = .ok (.aload_n 1, 1) := by decide +kernel
theorem dL_law_326 : decode cL_law 326 = .ok (.aload_n 0, 1) := by decide +kernel
theorem dL_law_327 : decode cL_law 327 = .ok (.iload 4, 2) := by decide +kernel
theorem dL_law_329 : decode cL_law 329 = .ok (.iconst 1, 1) := by decide +kernel
theorem dL_law_330 : decode cL_law 330 = .ok (.iadd, 1) := by decide +kernel
theorem dL_law_331 : decode cL_law 331 = .ok (.iaload, 1) := by decide +kernel
theorem dL_law_332 : decode cL_law 332 = .ok (.aload_n 3, 1) := by decide +kernel
theorem dL_law_333 : decode cL_law 333 = .ok (.invokestatic 110, 3) := by decide +kernel
theorem dL_law_336 : decode cL_law 336 = .ok (.istore 5, 2) := by decide +kernel
theorem dL_law_338 : decode cL_law 338 = .ok (.aload_n 2, 1) := by decide +kernel
theorem dL_law_339 : decode cL_law 339 = .ok (.aload_n 0, 1) := by decide +kernel
theorem dL_law_340 : decode cL_law 340 = .ok (.iload 4, 2) := by decide +kernel
theorem dL_law_342 : decode cL_law 342 = .ok (.iconst 1, 1) := by decide +kernel
theorem dL_law_343 : decode cL_law 343 = .ok (.iadd, 1) := by decide +kernel
theorem dL_law_344 : decode cL_law 344 = .ok (.iaload, 1) := by decide +kernel
theorem dL_law_345 : decode cL_law 345 = .ok (.invokevirtual 113, 3) := by decide +kernel
theorem dL_law_348 : decode cL_law 348 = .ok (.istore 6, 2) := by decide +kernel
theorem dL_law_350 : decode cL_law 350 = .ok (.aload_n 2, 1) := by decide +kernel
theorem dL_law_351 : decode cL_law 351 = .ok (.invokevirtual 102, 3) := by decide +kernel
theorem dL_law_354 : decode cL_law 354 = .ok (.iload 5, 2) := by decide +kernel
theorem dL_law_356 : decode cL_law 356 = .ok (.if_icmp .eq 5, 3) := by decide +kernel
theorem dL_law_359 : decode cL_law 359 = .ok (.iconst 0, 1) := by decide +kernel
theorem dL_law_360 : decode cL_law 360 = .ok (.ireturn, 1) := by decide +kernel
theorem dL_law_361 : decode cL_law 361 = .ok (.iload 5, 2) := by decide +kernel
theorem dL_law_363 : decode cL_law 363 = .ok (.ifCond .ne 22, 3) := by decide +kernel
theorem dL_law_366 : decode cL_law 366 = .ok (.aload_n 3, 1) := by decide +kernel
theorem dL_law_367 : decode cL_law 367 = .ok (.iconst 0, 1) := by decide +kernel
theorem dL_law_368 : decode cL_law 368 = .ok (.laload, 1) := by decide +kernel
theorem dL_law_369 : decode cL_law 369 = .ok (.iload 6, 2) := by decide +kernel
theorem dL_law_371 : decode cL_law 371 = .ok (.ifCond .eq 7, 3) := by decide +kernel
theorem dL_law_374 : decode cL_law 374 = .ok (.lconst 1, 1) := by decide +kernel
theorem dL_law_375 : decode cL_law 375 = .ok (.goto 4, 3) := by decide +kernel
theorem dL_law_378 : decode cL_law 378 = .ok (.lconst 0, 1) := by decide +kernel
theorem dL_law_379 : decode cL_law 379 = .ok (.lcmp, 1) := by decide +kernel
theorem dL_law_380 : decode cL_law 380 = .ok (.ifCond .eq 5, 3) := by decide +kernel
theorem dL_law_383 : decode cL_law 383 = .ok (.iconst 0, 1) := by decide +kernel
theorem dL_law_384 : decode cL_law 384 = .ok (.ireturn, 1) := by decide +kernel
theorem dL_law_385 : decode cL_law 385 = .ok (.goto 1223, 3) := by decide +kernel
theorem dL_law_388 : decode cL_law 388 = .ok (.aload_n 1, 1) := by decide +kernel
theorem dL_law_389 : decode cL_law 389 = .ok (.aload_n 0, 1) := by decide +kernel
theorem dL_law_390 : decode cL_law 390 = .ok (.iload 4, 2) := by decide +kernel
theorem dL_law_392 : decode cL_law 392 = .ok (.iconst 1, 1) := by decide +kernel
theorem dL_law_393 : decode cL_law 393 = .ok (.iadd, 1) := by decide +kernel
theorem dL_law_394 : decode cL_law 394 = .ok (.iaload, 1) := by decide +kernel
theorem dL_law_395 : decode cL_law 395 = .ok (.aload_n 3, 1) := by decide +kernel
theorem dL_law_396 : decode cL_law 396 = .ok (.invokestatic 114, 3) := by decide +kernel
theorem dL_law_399 : decode cL_law 399 = .ok (.istore 5, 2) := by decide +kernel
theorem dL_law_401 : decode cL_law 401 = .ok (.aload_n 2, 1) := by decide +kernel
theorem dL_law_402 : decode cL_law 402 = .ok (.aload_n 0, 1) := by decide +kernel
theorem dL_law_403 : decode cL_law 403 = .ok (.iload 4, 2) := by decide +kernel
theorem dL_law_405 : decode cL_law 405 = .ok (.iconst 1, 1) := by decide +kernel
theorem dL_law_406 : decode cL_law 406 = .ok (.iadd, 1) := by decide +kernel
theorem dL_law_407 : decode cL_law 407 = .ok (.iaload, 1) := by decide +kernel
theorem dL_law_408 : decode cL_law 408 = .ok (.invokevirtual 116, 3) := by decide +kernel
