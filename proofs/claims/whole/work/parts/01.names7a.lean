set_option maxRecDepth 20000 in
theorem ggL_law_X6_init : GoodIn wsL_law wsX6_init := goodIn_r _ [8, 9, 10, 11, 12, 13, 14, 15, 16, 17, 18, 19, 20, 21, 22, 23, 24, 25, 26, 27, 28, 29, 30, 31, 32, 33, 34, 35, 36, 37, 38, 39, 40, 41, 42, 43, 44, 45, 46, 47, 48, 49, 50, 51, 52, 53, 54, 55, 56, 57, 58, 59, 60, 61, 62, 63, 64, 65, 66, 67, 68, 69, 70, 679, 680, 660, 661, 662, 663, 664, 665, 666, 681, 682, 683, 684, 685, 686, 687, 688, 689, 690, 691] (by decide +kernel) (by decide +kernel)
set_option maxRecDepth 20000 in
theorem gL_law_X6_init : GoodIn wsL_law (wsX6_init) := ggL_law_X6_init
set_option maxRecDepth 20000 in
theorem ggL_law_X7_init : GoodIn wsL_law wsX7_init := goodIn_r _ [73, 74, 10, 11, 40, 75, 76, 77, 78, 79, 80, 81, 82, 83, 667, 668, 669, 670, 671, 672, 673, 674, 675, 676, 677, 678] (by decide +kernel) (by decide +kernel)
set_option maxRecDepth 20000 in
theorem gL_law_X7_init : GoodIn wsL_law (wsX7_init) := ggL_law_X7_init
set_option maxRecDepth 20000 in
theorem ggL_law_X6_insert : GoodIn wsL_law wsX6_insert := goodIn_r _ [87, 15, 19, 88, 89, 2, 90, 91, 92, 93, 18, 94, 49, 48, 95, 96, 97, 98, 99, 100, 101, 14, 102, 41, 42, 103, 104, 105, 106, 107, 108, 109, 110, 660, 661, 662, 663, 664, 665, 666, 679, 680, 681, 682] (by decide +kernel) (by decide +kernel)
set_option maxRecDepth 20000 in
theorem gL_law_X6_insert : GoodIn wsL_law (wsV RL 13 RX6 yX6_insert wsX6_insert) := goodIn_app (goodIn_of _ (by decide +kernel)) ggL_law_X6_insert
set_option maxRecDepth 20000 in
theorem ggL_law_X7_insert : GoodIn wsL_law wsX7_insert := goodIn_r _ [114, 75, 115, 116, 117, 5, 118, 119, 120, 121, 122, 123, 124, 125, 126, 76, 127, 128, 129, 130, 667, 668, 669, 670, 671, 672, 673, 674, 675, 676, 677, 678] (by decide +kernel) (by decide +kernel)
set_option maxRecDepth 20000 in
theorem gL_law_X7_insert : GoodIn wsL_law (wsV RL 17 RX7 yX7_insert wsX7_insert) := goodIn_app (goodIn_of _ (by decide +kernel)) ggL_law_X7_insert
set_option maxRecDepth 20000 in
theorem ggL_law_X6_remove : GoodIn wsL_law wsX6_remove := goodIn_r _ [134, 15, 19, 135, 136, 137, 14, 138, 42, 91, 92, 93, 18, 94, 49, 48, 95, 96, 97, 98, 99, 100, 101, 102, 41, 103, 104, 105, 106, 139, 140, 141, 142, 660, 661, 662, 663, 664, 665, 666, 679, 680, 681, 682] (by decide +kernel) (by decide +kernel)
set_option maxRecDepth 20000 in
theorem gL_law_X6_remove : GoodIn wsL_law (wsV RL 18 RX6 yX6_remove wsX6_remove) := goodIn_app (goodIn_of _ (by decide +kernel)) ggL_law_X6_remove
set_option maxRecDepth 20000 in
theorem ggL_law_X7_remove : GoodIn wsL_law wsX7_remove := goodIn_r _ [146, 75, 147, 148, 149, 5, 150, 115, 116, 117, 118, 119, 120, 121, 122, 123, 124, 125, 126, 76, 127, 128, 129, 130, 667, 668, 669, 670, 671, 672, 673, 674, 675, 676, 677, 678] (by decide +kernel) (by decide +kernel)
set_option maxRecDepth 20000 in
theorem gL_law_X7_remove : GoodIn wsL_law (wsV RL 22 RX7 yX7_remove wsX7_remove) := goodIn_app (goodIn_of _ (by decide +kernel)) ggL_law_X7_remove
set_option maxRecDepth 20000 in
theorem ggL_law_X6_set : GoodIn wsL_law wsX6_set := goodIn_r _ [154, 15, 19, 135, 136, 137, 14, 138, 42, 88, 89, 2, 90, 91, 92, 93, 18, 94, 49, 48, 95, 96, 97, 98, 99, 100, 101, 102, 41, 103, 104, 105, 106, 660, 661, 662, 663, 664, 665, 666, 679, 680, 681, 682] (by decide +kernel) (by decide +kernel)
set_option maxRecDepth 20000 in
theorem gL_law_X6_set : GoodIn wsL_law (wsV RL 23 RX6 yX6_set wsX6_set) := goodIn_app (goodIn_of _ (by decide +kernel)) ggL_law_X6_set
set_option maxRecDepth 20000 in
theorem ggL_law_X7_set : GoodIn wsL_law wsX7_set := goodIn_r _ [158, 75, 147, 148, 149, 5, 150, 115, 116, 117, 118, 119, 120, 121, 122, 123, 124, 125, 126, 76, 127, 128, 129, 130, 667, 668, 669, 670, 671, 672, 673, 674, 675, 676, 677, 678] (by decide +kernel) (by decide +kernel)
set_option maxRecDepth 20000 in
theorem gL_law_X7_set : GoodIn wsL_law (wsV RL 26 RX7 yX7_set wsX7_set) := goodIn_app (goodIn_of _ (by decide +kernel)) ggL_law_X7_set
set_option maxRecDepth 20000 in
theorem ggL_law_X6_raise : GoodIn wsL_law wsX6_raise := goodIn_r _ [162, 15, 19, 163, 164, 165, 14, 166, 42, 91, 92, 93, 18, 94, 49, 48, 95, 96, 97, 98, 99, 100, 101, 102, 41, 103, 104, 105, 106, 167, 168, 169, 170, 171, 172, 173, 174, 175, 176, 177, 660, 661, 662, 663, 664, 665, 666, 679, 680, 681, 682] (by decide +kernel) (by decide +kernel)
set_option maxRecDepth 20000 in
theorem gL_law_X6_raise : GoodIn wsL_law (wsV RL 27 RX6 yX6_raise wsX6_raise) := goodIn_app (goodIn_of _ (by decide +kernel)) ggL_law_X6_raise
set_option maxRecDepth 20000 in
theorem ggL_law_X7_raise : GoodIn wsL_law wsX7_raise := goodIn_r _ [181, 75, 182, 183, 184, 5, 185, 147, 148, 149, 150, 115, 116, 117, 118, 119, 120, 121, 122, 123, 124, 125, 126, 76, 186, 187, 188, 189, 190, 191, 192, 127, 128, 129, 130, 667, 668, 669, 670, 671, 672, 673, 674, 675, 676, 677, 678] (by decide +kernel) (by decide +kernel)
set_option maxRecDepth 20000 in
theorem gL_law_X7_raise : GoodIn wsL_law (wsV RL 31 RX7 yX7_raise wsX7_raise) := goodIn_app (goodIn_of _ (by decide +kernel)) ggL_law_X7_raise
set_option maxRecDepth 20000 in
theorem ggL_law_X6_reverse : GoodIn wsL_law wsX6_reverse := goodIn_r _ [196, 15, 19, 163, 164, 165, 14, 166, 42, 91, 92, 93, 18, 94, 49, 48, 95, 96, 97, 98, 99, 100, 101, 102, 41, 103, 104, 105, 106, 197, 198, 199, 200, 201, 202, 203, 204, 660, 661, 662, 663, 664, 665, 666, 679, 680, 681, 682] (by decide +kernel) (by decide +kernel)
set_option maxRecDepth 20000 in
theorem gL_law_X6_reverse : GoodIn wsL_law (wsV RL 32 RX6 yX6_reverse wsX6_reverse) := goodIn_app (goodIn_of _ (by decide +kernel)) ggL_law_X6_reverse
set_option maxRecDepth 20000 in
theorem ggL_law_X7_reverse : GoodIn wsL_law wsX7_reverse := goodIn_r _ [208, 75, 182, 183, 184, 5, 185, 147, 148, 149, 150, 115, 116, 117, 118, 119, 120, 121, 122, 123, 124, 125, 126, 76, 127, 128, 129, 130, 189, 190, 191, 192, 667, 668, 669, 670, 671, 672, 673, 674, 675, 676, 677, 678] (by decide +kernel) (by decide +kernel)
set_option maxRecDepth 20000 in
theorem gL_law_X7_reverse : GoodIn wsL_law (wsV RL 35 RX7 yX7_reverse wsX7_reverse) := goodIn_app (goodIn_of _ (by decide +kernel)) ggL_law_X7_reverse
set_option maxRecDepth 20000 in
theorem ggL_law_X6_sort : GoodIn wsL_law wsX6_sort := goodIn_r _ [212, 15, 19, 163, 164, 165, 14, 166, 42, 91, 92, 93, 18, 94, 49, 48, 95, 96, 97, 98, 99, 100, 101, 102, 41, 103, 104, 105, 106, 213, 214, 215, 216, 217, 218, 219, 201, 202, 203, 204, 660, 661, 662, 663, 664, 665, 666, 679, 680, 681, 682] (by decide +kernel) (by decide +kernel)
set_option maxRecDepth 20000 in
theorem gL_law_X6_sort : GoodIn wsL_law (wsV RL 36 RX6 yX6_sort wsX6_sort) := goodIn_app (goodIn_of _ (by decide +kernel)) ggL_law_X6_sort
set_option maxRecDepth 20000 in
theorem ggL_law_X7_sort : GoodIn wsL_law wsX7_sort := goodIn_r _ [223, 75, 182, 183, 184, 5, 185, 147, 148, 149, 150, 115, 116, 117, 118, 119, 120, 121, 122, 123, 124, 125, 126, 76, 667, 668, 669, 670, 671, 672, 673, 674, 675, 676, 677, 678] (by decide +kernel) (by decide +kernel)
set_option maxRecDepth 20000 in
theorem gL_law_X7_sort : GoodIn wsL_law (wsV RL 39 RX7 yX7_sort wsX7_sort) := goodIn_app (goodIn_of _ (by decide +kernel)) ggL_law_X7_sort
set_option maxRecDepth 20000 in
theorem ggL_law_X6_freeze : GoodIn wsL_law wsX6_freeze := goodIn_r _ [227, 19, 15, 24, 91, 92, 93, 18, 94, 49, 48, 95, 96, 97, 98, 99, 100, 101, 14, 102, 41, 42, 103, 104, 105, 106, 228, 229, 230, 2, 231, 232, 233, 234, 23, 235, 236, 176, 173, 177, 53, 237, 172, 174, 660, 661, 662, 663, 664, 665, 666, 679, 680, 683, 681, 682] (by decide +kernel) (by decide +kernel)
set_option maxRecDepth 20000 in
theorem gL_law_X6_freeze : GoodIn wsL_law (wsV RL 40 RX6 yX6_freeze wsX6_freeze) := goodIn_app (goodIn_of _ (by decide +kernel)) ggL_law_X6_freeze
set_option maxRecDepth 20000 in
theorem ggL_law_X7_freeze : GoodIn wsL_law wsX7_freeze := goodIn_r _ [241, 78, 75, 122, 123, 124, 5, 125, 126, 76, 115, 116, 117, 118, 242, 243, 244, 245, 246, 247, 248, 249, 250, 251, 252, 253, 667, 668, 669, 670, 671, 672, 673, 674, 675, 676, 677, 678] (by decide +kernel) (by decide +kernel)
set_option maxRecDepth 20000 in
theorem gL_law_X7_freeze : GoodIn wsL_law (wsV RL 44 RX7 yX7_freeze wsX7_freeze) := goodIn_app (goodIn_of _ (by decide +kernel)) ggL_law_X7_freeze
set_option maxRecDepth 20000 in
theorem ggL_law_X6_clear : GoodIn wsL_law wsX6_clear := goodIn_r _ [257, 19, 15, 91, 92, 93, 18, 94, 49, 48, 95, 96, 97, 98, 99, 100, 101, 14, 102, 41, 42, 103, 104, 105, 106, 660, 661, 662, 663, 664, 665, 666, 679, 680, 681, 682] (by decide +kernel) (by decide +kernel)
set_option maxRecDepth 20000 in
theorem gL_law_X6_clear : GoodIn wsL_law (wsV RL 45 RX6 yX6_clear wsX6_clear) := goodIn_app (goodIn_of _ (by decide +kernel)) ggL_law_X6_clear
set_option maxRecDepth 20000 in
theorem ggL_law_X7_clear : GoodIn wsL_law wsX7_clear := goodIn_r _ [261, 75, 122, 123, 124, 5, 125, 126, 76, 127, 128, 129, 130, 667, 668, 669, 670, 671, 672, 673, 674, 675, 676, 677, 678] (by decide +kernel) (by decide +kernel)
set_option maxRecDepth 20000 in
theorem gL_law_X7_clear : GoodIn wsL_law (wsV RL 48 RX7 yX7_clear wsX7_clear) := goodIn_app (goodIn_of _ (by decide +kernel)) ggL_law_X7_clear
set_option maxRecDepth 20000 in
theorem ggL_law_X6_undo : GoodIn wsL_law wsX6_undo := goodIn_r _ [265, 19, 15, 266, 267, 268, 18, 269, 49, 48, 99, 100, 101, 14, 102, 41, 42, 103, 104, 105, 106, 660, 661, 662, 663, 664, 665, 666, 681, 682, 679, 680] (by decide +kernel) (by decide +kernel)
set_option maxRecDepth 20000 in
theorem gL_law_X6_undo : GoodIn wsL_law (wsV RL 49 RX6 yX6_undo wsX6_undo) := goodIn_app (goodIn_of _ (by decide +kernel)) ggL_law_X6_undo
set_option maxRecDepth 20000 in
theorem ggL_law_X7_undo : GoodIn wsL_law wsX7_undo := goodIn_r _ [273, 126, 75, 76, 667, 668, 669, 670, 671, 672, 673, 674, 675, 676, 677, 678] (by decide +kernel) (by decide +kernel)
set_option maxRecDepth 20000 in
theorem gL_law_X7_undo : GoodIn wsL_law (wsV RL 52 RX7 yX7_undo wsX7_undo) := goodIn_app (goodIn_of _ (by decide +kernel)) ggL_law_X7_undo
set_option maxRecDepth 20000 in
theorem ggL_law_X6_told : GoodIn wsL_law wsX6_told := goodIn_r _ [277, 15, 36, 19, 278, 279, 2, 280, 281, 282, 283, 14, 284, 42, 41, 285, 286, 228, 229, 230, 231, 24, 232, 233, 234, 23, 235, 236, 176, 173, 177, 53, 237, 172, 174, 287, 288, 289, 290, 291, 292, 293, 294, 295, 296, 297, 298, 299, 300, 301, 302, 28, 303, 304, 305, 27, 306, 61, 307, 308, 309, 310, 311, 312, 313, 314, 57, 58, 59, 60, 315, 316, 317, 318, 319, 320, 321, 322, 323, 324, 325, 326, 327, 328, 329, 330, 32, 331, 332, 333, 334, 31, 335, 66, 65, 336, 337, 338, 339, 340, 341, 342, 343, 175, 344, 345, 346, 35, 347, 70, 348, 349, 350, 351, 352, 353, 354, 355, 356, 357, 358, 359, 360, 361, 362, 363, 364, 365, 366, 367, 660, 661, 662, 663, 664, 665, 666, 679, 680, 681, 682, 683, 684, 685, 686, 687, 688, 689, 690, 691] (by decide +kernel) (by decide +kernel)
set_option maxRecDepth 20000 in
theorem gL_law_X6_told : GoodIn wsL_law (wsV RL 53 RX6 yX6_told wsX6_told) := goodIn_app (goodIn_of _ (by decide +kernel)) ggL_law_X6_told
set_option maxRecDepth 20000 in
theorem ggL_law_X7_told : GoodIn wsL_law wsX7_told := goodIn_r _ [371, 126, 115, 116, 117, 5, 118, 75, 372, 373, 374, 375, 250, 251, 252, 253, 242, 243, 244, 245, 246, 247, 248, 249, 376, 377, 378, 379, 380, 381, 382, 383, 384, 385, 386, 387, 147, 148, 149, 150, 119, 120, 121, 388, 389, 390, 391, 79, 80, 81, 392, 393, 394, 395, 396, 397, 398, 399, 400, 401, 402, 403, 404, 405, 406, 407, 408, 409, 410, 411, 412, 413, 414, 415, 416, 417, 418, 419, 420, 421, 422, 423, 424, 425, 426, 427, 428, 429, 430, 431, 432, 82, 433, 434, 435, 436, 83, 437, 438, 439, 440, 667, 668, 669, 670, 671, 672, 673, 674, 675, 676, 677, 678] (by decide +kernel) (by decide +kernel)
set_option maxRecDepth 20000 in
theorem gL_law_X7_told : GoodIn wsL_law (wsV RL 56 RX7 yX7_told wsX7_told) := goodIn_app (goodIn_of _ (by decide +kernel)) ggL_law_X7_told
set_option maxRecDepth 20000 in
theorem ggL_law_X6_column : GoodIn wsL_law wsX6_column := goodIn_r _ [444, 15, 135, 136, 137, 14, 138, 42, 445, 446, 447, 448, 41, 449, 450, 451, 452, 453, 454, 455, 456, 457, 458, 459, 460, 461, 462, 463, 2, 464, 24, 228, 229, 230, 231, 232, 233, 234, 23, 235, 236, 176, 173, 177, 53, 237, 172, 174, 465, 466, 467, 468, 32, 332, 333, 334, 31, 335, 66, 65, 469, 470, 471, 472, 336, 337, 338, 339, 473, 474, 475, 476, 477, 478, 479, 480, 481, 482, 660, 661, 662, 663, 664, 665, 666, 679, 680, 683, 689, 690] (by decide +kernel) (by decide +kernel)
set_option maxRecDepth 20000 in
theorem gL_law_X6_column : GoodIn wsL_law (wsV RL 57 RX6 yX6_column wsX6_column) := goodIn_app (goodIn_of _ (by decide +kernel)) ggL_law_X6_column
set_option maxRecDepth 20000 in
theorem ggL_law_X7_column : GoodIn wsL_law wsX7_column := goodIn_r _ [486, 75, 147, 148, 149, 5, 150, 115, 116, 117, 118, 119, 120, 121, 487, 488, 489, 490, 246, 247, 248, 249, 250, 251, 252, 253, 491, 492, 493, 494, 416, 412, 413, 414, 415, 417, 418, 419, 420, 396, 397, 398, 399, 421, 422, 423, 424, 495, 496, 497, 498, 499, 500, 501, 502, 667, 668, 669, 670, 671, 672, 673, 674, 675, 676, 677, 678] (by decide +kernel) (by decide +kernel)
set_option maxRecDepth 20000 in
theorem gL_law_X7_column : GoodIn wsL_law (wsV RL 60 RX7 yX7_column wsX7_column) := goodIn_app (goodIn_of _ (by decide +kernel)) ggL_law_X7_column
set_option maxRecDepth 20000 in
theorem ggL_law_X6_stair : GoodIn wsL_law wsX6_stair := goodIn_r _ [506, 15, 135, 136, 137, 14, 138, 42, 507, 508, 509, 510, 41, 660, 661, 662, 663, 664, 665, 666, 679, 680] (by decide +kernel) (by decide +kernel)
set_option maxRecDepth 20000 in
theorem gL_law_X6_stair : GoodIn wsL_law (wsV RL 61 RX6 yX6_stair wsX6_stair) := goodIn_app (goodIn_of _ (by decide +kernel)) ggL_law_X6_stair
set_option maxRecDepth 20000 in
theorem ggL_law_X7_stair : GoodIn wsL_law wsX7_stair := goodIn_r _ [514, 147, 148, 149, 5, 150, 115, 116, 117, 118, 75, 119, 120, 121, 487, 488, 489, 490, 667, 668, 669, 670, 671, 672, 673, 674, 675, 676, 677, 678] (by decide +kernel) (by decide +kernel)
set_option maxRecDepth 20000 in
theorem gL_law_X7_stair : GoodIn wsL_law (wsV RL 64 RX7 yX7_stair wsX7_stair) := goodIn_app (goodIn_of _ (by decide +kernel)) ggL_law_X7_stair
set_option maxRecDepth 20000 in
theorem ggL_law_X6_range : GoodIn wsL_law wsX6_range := goodIn_r _ [518, 15, 163, 164, 165, 14, 166, 42, 519, 520, 2, 521, 522, 285, 286, 278, 279, 280, 523, 524, 525, 526, 28, 303, 304, 305, 27, 306, 61, 307, 308, 309, 310, 311, 312, 313, 314, 57, 58, 59, 60, 315, 316, 317, 318, 319, 320, 321, 322, 527, 528, 529, 530, 660, 661, 662, 663, 664, 665, 666, 679, 680, 684, 685, 686, 687, 688] (by decide +kernel) (by decide +kernel)
set_option maxRecDepth 20000 in
theorem gL_law_X6_range : GoodIn wsL_law (wsV RL 65 RX6 yX6_range wsX6_range) := goodIn_app (goodIn_of _ (by decide +kernel)) ggL_law_X6_range
set_option maxRecDepth 20000 in
theorem ggL_law_X7_range : GoodIn wsL_law wsX7_range := goodIn_r _ [534, 182, 183, 184, 5, 185, 147, 148, 149, 150, 115, 116, 117, 118, 75, 119, 120, 121, 396, 397, 398, 399, 421, 422, 423, 424, 250, 251, 252, 253, 372, 373, 374, 375, 535, 536, 537, 538, 400, 401, 402, 403, 667, 668, 669, 670, 671, 672, 673, 674, 675, 676, 677, 678] (by decide +kernel) (by decide +kernel)
set_option maxRecDepth 20000 in
theorem gL_law_X7_range : GoodIn wsL_law (wsV RL 68 RX7 yX7_range wsX7_range) := goodIn_app (goodIn_of _ (by decide +kernel)) ggL_law_X7_range
set_option maxRecDepth 20000 in
theorem ggL_law_X6_rectangle : GoodIn wsL_law wsX6_rectangle := goodIn_r _ [542, 28, 15, 303, 304, 305, 27, 306, 61, 307, 308, 309, 310, 311, 312, 313, 314, 57, 58, 59, 60, 315, 316, 317, 318, 319, 320, 321, 322, 543, 544, 545, 546, 527, 528, 529, 530, 660, 661, 662, 663, 664, 665, 666, 679, 680, 684, 685, 686, 687, 688] (by decide +kernel) (by decide +kernel)
set_option maxRecDepth 20000 in
theorem gL_law_X6_rectangle : GoodIn wsL_law (wsV RL 69 RX6 yX6_rectangle wsX6_rectangle) := goodIn_app (goodIn_of _ (by decide +kernel)) ggL_law_X6_rectangle
set_option maxRecDepth 20000 in
theorem ggL_law_X7_rectangle : GoodIn wsL_law wsX7_rectangle := goodIn_r _ [550, 80, 81, 79, 119, 120, 5, 121, 388, 389, 390, 391, 115, 116, 117, 118, 75, 392, 393, 394, 395, 396, 397, 398, 399, 400, 401, 402, 403, 551, 552, 553, 554, 421, 422, 423, 424, 667, 668, 669, 670, 671, 672, 673, 674, 675, 676, 677, 678] (by decide +kernel) (by decide +kernel)
set_option maxRecDepth 20000 in
theorem gL_law_X7_rectangle : GoodIn wsL_law (wsV RL 72 RX7 yX7_rectangle wsX7_rectangle) := goodIn_app (goodIn_of _ (by decide +kernel)) ggL_law_X7_rectangle
set_option maxRecDepth 20000 in
theorem ggL_law_X6_container : GoodIn wsL_law wsX6_container := goodIn_r _ [558, 15, 559, 172, 173, 174, 660, 661, 662, 663, 664, 665, 666, 679, 680] (by decide +kernel) (by decide +kernel)
set_option maxRecDepth 20000 in
theorem gL_law_X6_container : GoodIn wsL_law (wsV RL 73 RX6 yX6_container wsX6_container) := goodIn_app (goodIn_of _ (by decide +kernel)) ggL_law_X6_container
set_option maxRecDepth 20000 in
theorem ggL_law_X7_container : GoodIn wsL_law wsX7_container := goodIn_r _ [563, 75, 119, 120, 5, 121, 115, 116, 117, 118, 667, 668, 669, 670, 671, 672, 673, 674, 675, 676, 677, 678] (by decide +kernel) (by decide +kernel)
set_option maxRecDepth 20000 in
theorem gL_law_X7_container : GoodIn wsL_law (wsV RL 76 RX7 yX7_container wsX7_container) := goodIn_app (goodIn_of _ (by decide +kernel)) ggL_law_X7_container
set_option maxRecDepth 20000 in
theorem ggL_law_X6_pool : GoodIn wsL_law wsX6_pool := goodIn_r _ [567, 24, 15, 228, 229, 230, 2, 231, 232, 233, 234, 23, 235, 236, 176, 173, 177, 53, 237, 172, 174, 568, 569, 570, 571, 295, 296, 297, 298, 572, 573, 574, 575, 278, 279, 280, 522, 285, 286, 660, 661, 662, 663, 664, 665, 666, 679, 680, 683] (by decide +kernel) (by decide +kernel)
set_option maxRecDepth 20000 in
theorem gL_law_X6_pool : GoodIn wsL_law (wsV RL 77 RX6 yX6_pool wsX6_pool) := goodIn_app (goodIn_of _ (by decide +kernel)) ggL_law_X6_pool
set_option maxRecDepth 20000 in
theorem ggL_law_X7_pool : GoodIn wsL_law wsX7_pool := goodIn_r _ [579, 75, 119, 120, 5, 121, 580, 581, 582, 583, 115, 116, 117, 118, 380, 381, 382, 383, 384, 385, 386, 387, 147, 148, 149, 150, 246, 247, 248, 249, 250, 251, 252, 253, 667, 668, 669, 670, 671, 672, 673, 674, 675, 676, 677, 678] (by decide +kernel) (by decide +kernel)
set_option maxRecDepth 20000 in
theorem gL_law_X7_pool : GoodIn wsL_law (wsV RL 80 RX7 yX7_pool wsX7_pool) := goodIn_app (goodIn_of _ (by decide +kernel)) ggL_law_X7_pool
set_option maxRecDepth 20000 in
theorem ggL_law_X6_drained : GoodIn wsL_law wsX6_drained := goodIn_r _ [587, 15, 24, 135, 136, 137, 14, 138, 42, 232, 233, 234, 23, 235, 236, 176, 173, 177, 53, 237, 172, 174, 228, 229, 230, 2, 231, 660, 661, 662, 663, 664, 665, 666, 679, 680, 683] (by decide +kernel) (by decide +kernel)
set_option maxRecDepth 20000 in
theorem gL_law_X6_drained : GoodIn wsL_law (wsV RL 81 RX6 yX6_drained wsX6_drained) := goodIn_app (goodIn_of _ (by decide +kernel)) ggL_law_X6_drained
set_option maxRecDepth 20000 in
theorem ggL_law_X7_drained : GoodIn wsL_law wsX7_drained := goodIn_r _ [591, 147, 148, 149, 5, 150, 115, 116, 117, 118, 75, 119, 120, 121, 242, 243, 244, 245, 246, 247, 248, 249, 250, 251, 252, 253, 667, 668, 669, 670, 671, 672, 673, 674, 675, 676, 677, 678] (by decide +kernel) (by decide +kernel)
set_option maxRecDepth 20000 in
theorem gL_law_X7_drained : GoodIn wsL_law (wsV RL 84 RX7 yX7_drained wsX7_drained) := goodIn_app (goodIn_of _ (by decide +kernel)) ggL_law_X7_drained
set_option maxRecDepth 20000 in
theorem ggL_law_X6_dam : GoodIn wsL_law wsX6_dam := goodIn_r _ [595, 15, 596, 597, 598, 2, 599, 559, 172, 173, 174, 228, 229, 230, 231, 24, 232, 233, 234, 23, 235, 236, 176, 177, 53, 237, 660, 661, 662, 663, 664, 665, 666, 679, 680, 683] (by decide +kernel) (by decide +kernel)
set_option maxRecDepth 20000 in
theorem gL_law_X6_dam : GoodIn wsL_law (wsV RL 85 RX6 yX6_dam wsX6_dam) := goodIn_app (goodIn_of _ (by decide +kernel)) ggL_law_X6_dam
set_option maxRecDepth 20000 in
theorem ggL_law_X7_dam : GoodIn wsL_law wsX7_dam := goodIn_r _ [603, 75, 119, 120, 5, 121, 115, 116, 117, 118, 186, 187, 188, 242, 243, 244, 245, 246, 247, 248, 249, 250, 251, 252, 253, 667, 668, 669, 670, 671, 672, 673, 674, 675, 676, 677, 678] (by decide +kernel) (by decide +kernel)
set_option maxRecDepth 20000 in
theorem gL_law_X7_dam : GoodIn wsL_law (wsV RL 88 RX7 yX7_dam wsX7_dam) := goodIn_app (goodIn_of _ (by decide +kernel)) ggL_law_X7_dam
set_option maxRecDepth 20000 in
theorem ggL_law_X6_sumOfMinima : GoodIn wsL_law wsX6_sumOfMinima := goodIn_r _ [607, 15, 559, 172, 173, 174, 660, 661, 662, 663, 664, 665, 666, 679, 680] (by decide +kernel) (by decide +kernel)
set_option maxRecDepth 20000 in
theorem gL_law_X6_sumOfMinima : GoodIn wsL_law (wsV RL 89 RX6 yX6_sumOfMinima wsX6_sumOfMinima) := goodIn_app (goodIn_of _ (by decide +kernel)) ggL_law_X6_sumOfMinima
set_option maxRecDepth 20000 in
theorem ggL_law_X7_sumOfMinima : GoodIn wsL_law wsX7_sumOfMinima := goodIn_r _ [611, 115, 116, 117, 5, 118, 75, 396, 397, 398, 399, 667, 668, 669, 670, 671, 672, 673, 674, 675, 676, 677, 678] (by decide +kernel) (by decide +kernel)
set_option maxRecDepth 20000 in
theorem gL_law_X7_sumOfMinima : GoodIn wsL_law (wsV RL 92 RX7 yX7_sumOfMinima wsX7_sumOfMinima) := goodIn_app (goodIn_of _ (by decide +kernel)) ggL_law_X7_sumOfMinima
set_option maxRecDepth 20000 in
theorem ggL_law_X6_ranges : GoodIn wsL_law wsX6_ranges := goodIn_r _ [615, 15, 88, 89, 2, 90, 660, 661, 662, 663, 664, 665, 666, 679, 680] (by decide +kernel) (by decide +kernel)
set_option maxRecDepth 20000 in
theorem gL_law_X6_ranges : GoodIn wsL_law (wsV RL 93 RX6 yX6_ranges wsX6_ranges) := goodIn_app (goodIn_of _ (by decide +kernel)) ggL_law_X6_ranges
set_option maxRecDepth 20000 in
theorem ggL_law_X7_ranges : GoodIn wsL_law wsX7_ranges := goodIn_r _ [619, 119, 120, 5, 121, 115, 116, 117, 118, 75, 396, 397, 398, 399, 667, 668, 669, 670, 671, 672, 673, 674, 675, 676, 677, 678] (by decide +kernel) (by decide +kernel)
set_option maxRecDepth 20000 in
theorem gL_law_X7_ranges : GoodIn wsL_law (wsV RL 96 RX7 yX7_ranges wsX7_ranges) := goodIn_app (goodIn_of _ (by decide +kernel)) ggL_law_X7_ranges
set_option maxRecDepth 20000 in
theorem ggL_law_X6_keep : GoodIn wsL_law wsX6_keep := goodIn_r _ [623, 20, 12, 13, 14, 15, 624, 625, 2, 626, 37, 38, 39, 10, 11, 40, 41, 42, 627, 100, 101, 102, 103, 104, 105, 106, 660, 661, 662, 663, 664, 665, 666, 679, 680] (by decide +kernel) (by decide +kernel)
set_option maxRecDepth 20000 in
theorem gL_law_X6_keep : GoodIn wsL_law (wsV RL 97 RX6 yX6_keep wsX6_keep) := goodIn_app (goodIn_of _ (by decide +kernel)) ggL_law_X6_keep
set_option maxRecDepth 20000 in
theorem ggL_law_X7_keep : GoodIn wsL_law wsX7_keep := goodIn_r _ [631, 77, 75, 632, 633, 634, 5, 635, 119, 120, 121, 115, 116, 117, 118, 667, 668, 669, 670, 671, 672, 673, 674, 675, 676, 677, 678] (by decide +kernel) (by decide +kernel)
set_option maxRecDepth 20000 in
theorem gL_law_X7_keep : GoodIn wsL_law (wsV RL 100 RX7 yX7_keep wsX7_keep) := goodIn_app (goodIn_of _ (by decide +kernel)) ggL_law_X7_keep
set_option maxRecDepth 20000 in
theorem ggL_law_X6_back : GoodIn wsL_law wsX6_back := goodIn_r _ [639, 20, 19, 15, 624, 625, 2, 626, 91, 92, 93, 18, 94, 49, 48, 95, 96, 97, 98, 99, 100, 101, 14, 102, 41, 42, 103, 104, 105, 106, 627, 660, 661, 662, 663, 664, 665, 666, 679, 680, 681, 682] (by decide +kernel) (by decide +kernel)
set_option maxRecDepth 20000 in
theorem gL_law_X6_back : GoodIn wsL_law (wsV RL 101 RX6 yX6_back wsX6_back) := goodIn_app (goodIn_of _ (by decide +kernel)) ggL_law_X6_back
set_option maxRecDepth 20000 in
theorem ggL_law_X7_back : GoodIn wsL_law wsX7_back := goodIn_r _ [643, 75, 77, 633, 634, 5, 635, 119, 120, 121, 644, 645, 646, 647, 632, 122, 123, 124, 125, 126, 76, 115, 116, 117, 118, 667, 668, 669, 670, 671, 672, 673, 674, 675, 676, 677, 678] (by decide +kernel) (by decide +kernel)
set_option maxRecDepth 20000 in
theorem gL_law_X7_back : GoodIn wsL_law (wsV RL 104 RX7 yX7_back wsX7_back) := goodIn_app (goodIn_of _ (by decide +kernel)) ggL_law_X7_back
set_option maxRecDepth 20000 in
theorem ggL_law_X6_parting : GoodIn wsL_law wsX6_parting := goodIn_r _ [651, 20, 15, 624, 625, 2, 626, 652, 653, 654, 14, 655, 42, 171, 172, 173, 174, 41, 660, 661, 662, 663, 664, 665, 666, 679, 680] (by decide +kernel) (by decide +kernel)
set_option maxRecDepth 20000 in
theorem gL_law_X6_parting : GoodIn wsL_law (wsV RL 105 RX6 yX6_parting wsX6_parting) := goodIn_app (goodIn_of _ (by decide +kernel)) ggL_law_X6_parting
set_option maxRecDepth 20000 in
theorem ggL_law_X7_parting : GoodIn wsL_law wsX7_parting := goodIn_r _ [659, 77, 75, 633, 634, 5, 635, 119, 120, 121, 644, 645, 646, 647, 632, 115, 116, 117, 118, 667, 668, 669, 670, 671, 672, 673, 674, 675, 676, 677, 678] (by decide +kernel) (by decide +kernel)
set_option maxRecDepth 20000 in
theorem gL_law_X7_parting : GoodIn wsL_law (wsV RL 108 RX7 yX7_parting wsX7_parting) := goodIn_app (goodIn_of _ (by decide +kernel)) ggL_law_X7_parting
