set_option maxRecDepth 20000 in
theorem ggL_law_X7_land : GoodIn wsL_law wsX7_land := goodIn_ca (goodIn_r _ [368, 131, 216, 217, 218, 5, 219, 132, 133, 134, 135, 369, 370, 371, 372, 53, 77, 78, 88, 80, 349, 350, 351, 87, 352, 95, 136, 137, 138, 139, 665, 666, 667, 668, 669, 670, 671, 672, 673, 674, 675, 676, 677, 678, 679, 703, 704, 705, 706, 707, 708, 709, 710] (by decide +kernel) (by decide +kernel)) (goodIn_sub (fun _ h => List.mem_append_left _ (List.mem_append_left _ (List.mem_append_left _ (List.mem_append_right _ h)))) (by decide +kernel))
set_option maxRecDepth 20000 in
theorem gL_law_X7_land : GoodIn wsL_law (wsV RL 100 RX7 yX7_land wsX7_land) := goodIn_app (goodIn_of _ (by decide +kernel)) ggL_law_X7_land
set_option maxRecDepth 20000 in
theorem ggL_law_L_coins : GoodIn wsL_law wsL_coins := goodIn_ca (goodIn_ca (goodIn_r _ [375, 147, 376, 377, 378, 2, 379, 152, 153, 16, 113, 380, 115, 116, 117, 174, 175, 176, 27, 177, 122, 381, 252, 253, 35, 254, 69, 188, 189, 190, 255, 156, 157, 20, 158, 54, 662, 663, 664, 680, 681, 682, 683, 684, 685, 686, 687, 688, 690, 691, 692, 693, 694, 695, 702, 689] (by decide +kernel) (by decide +kernel)) (goodIn_sub (fun _ h => List.mem_append_left _ (List.mem_append_left _ (List.mem_append_left _ (List.mem_append_right _ h)))) (by decide +kernel))) (goodIn_sub (fun _ h => List.mem_append_right _ h) (by decide +kernel))
set_option maxRecDepth 20000 in
theorem gL_law_L_coins : GoodIn wsL_law (va_wsS RL 101 yL_coins wsL_coins) := goodIn_app (goodIn_of _ (by decide +kernel)) ggL_law_L_coins
set_option maxRecDepth 20000 in
theorem ggL_law_X7_coins : GoodIn wsL_law wsX7_coins := goodIn_ca (goodIn_r _ [385, 131, 88, 289, 290, 5, 291, 133, 134, 135, 216, 217, 218, 219, 132, 136, 137, 138, 139, 665, 666, 667, 668, 669, 670, 671, 672, 673, 674, 675, 676, 677, 678, 679, 703, 704, 705, 706, 707, 708, 709, 710] (by decide +kernel) (by decide +kernel)) (goodIn_sub (fun _ h => List.mem_append_left _ (List.mem_append_left _ (List.mem_append_left _ (List.mem_append_right _ h)))) (by decide +kernel))
set_option maxRecDepth 20000 in
theorem gL_law_X7_coins : GoodIn wsL_law (wsV RL 103 RX7 yX7_coins wsX7_coins) := goodIn_app (goodIn_of _ (by decide +kernel)) ggL_law_X7_coins
set_option maxRecDepth 20000 in
theorem ggL_law_L_told : GoodIn wsL_law wsL_told := goodIn_ca (goodIn_ca (goodIn_r _ [388, 147, 389, 390, 391, 2, 392, 152, 153, 16, 171, 233, 234, 235, 31, 236, 209, 115, 116, 117, 393, 394, 395, 396, 59, 60, 61, 62, 63, 397, 156, 157, 20, 158, 54, 662, 663, 664, 680, 681, 682, 683, 684, 685, 686, 687, 688, 696, 697, 698, 699, 700, 701, 689] (by decide +kernel) (by decide +kernel)) (goodIn_sub (fun _ h => List.mem_append_left _ (List.mem_append_left _ (List.mem_append_left _ (List.mem_append_right _ h)))) (by decide +kernel))) (goodIn_sub (fun _ h => List.mem_append_right _ h) (by decide +kernel))
set_option maxRecDepth 20000 in
theorem gL_law_L_told : GoodIn wsL_law (va_wsS RL 104 yL_told wsL_told) := goodIn_app (goodIn_of _ (by decide +kernel)) ggL_law_L_told
set_option maxRecDepth 20000 in
theorem ggL_law_X7_told : GoodIn wsL_law wsX7_told := goodIn_ca (goodIn_r _ [401, 131, 262, 263, 264, 5, 265, 215, 133, 134, 135, 402, 403, 404, 405, 53, 82, 83, 84, 88, 136, 137, 138, 139, 665, 666, 667, 668, 669, 670, 671, 672, 673, 674, 675, 676, 677, 678, 679, 703, 704, 705, 706, 707, 708, 709, 710] (by decide +kernel) (by decide +kernel)) (goodIn_sub (fun _ h => List.mem_append_left _ (List.mem_append_left _ (List.mem_append_left _ (List.mem_append_right _ h)))) (by decide +kernel))
set_option maxRecDepth 20000 in
theorem gL_law_X7_told : GoodIn wsL_law (wsV RL 106 RX7 yX7_told wsX7_told) := goodIn_app (goodIn_of _ (by decide +kernel)) ggL_law_X7_told
set_option maxRecDepth 20000 in
theorem ggL_law_L_count : GoodIn wsL_law wsL_count := goodIn_ca (goodIn_ca (goodIn_r _ [408, 147, 409, 410, 411, 2, 412, 152, 153, 16, 115, 116, 117, 413, 414, 415, 15, 416, 417, 28, 282, 32, 418, 39, 419, 303, 277, 420, 421, 422, 31, 423, 209, 62, 397, 156, 157, 20, 158, 54, 424, 425, 426, 427, 36, 305, 306, 307, 35, 308, 251, 252, 253, 254, 69, 188, 189, 190, 255, 428, 429, 430, 431, 309, 310, 311, 312, 183, 283, 196, 662, 663, 664, 680, 681, 682, 683, 684, 685, 686, 687, 688, 690, 691, 692, 693, 694, 695, 696, 697, 698, 699, 700, 701, 689, 702] (by decide +kernel) (by decide +kernel)) (goodIn_sub (fun _ h => List.mem_append_left _ (List.mem_append_left _ (List.mem_append_left _ (List.mem_append_right _ h)))) (by decide +kernel))) (goodIn_sub (fun _ h => List.mem_append_right _ h) (by decide +kernel))
set_option maxRecDepth 20000 in
theorem gL_law_L_count : GoodIn wsL_law (va_wsS RL 107 yL_count wsL_count) := goodIn_app (goodIn_of _ (by decide +kernel)) ggL_law_L_count
