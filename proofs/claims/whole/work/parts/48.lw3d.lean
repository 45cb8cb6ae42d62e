set_option maxRecDepth 20000 in
theorem ggL_law_X7_close : GoodIn wsL_law wsX7_close := goodIn_r _ [453, 117, 324, 325, 326, 327, 5, 328, 322, 323, 115, 76, 329, 84, 79, 330, 77, 78, 80, 331, 81, 82, 75, 83, 332, 333, 334, 335, 336, 337, 338, 339, 340, 341, 342, 343, 344, 345, 346, 347, 348, 349, 350, 351, 352, 353, 354, 355, 356, 357, 358, 359, 360, 361, 362, 363, 364, 365, 366, 85, 680, 681, 682, 683, 684, 685, 686, 687, 688, 689, 690, 691, 692, 693, 694, 695, 696, 697, 698, 699, 700, 701, 702, 703, 704, 705, 706, 707, 708, 709, 710, 711, 712] (by decide +kernel) (by decide +kernel)
set_option maxRecDepth 20000 in
theorem gL_law_X7_close : GoodIn wsL_law (wsV RL 93 RX7 yX7_close wsX7_close) := goodIn_app (goodIn_of _ (by decide +kernel)) ggL_law_X7_close
set_option maxRecDepth 20000 in
theorem ggL_law_X6_moments : GoodIn wsL_law wsX6_moments := goodIn_r _ [457, 25, 449, 213, 214, 51, 215, 190, 674, 675, 676, 677, 678, 679, 717, 718, 719, 720, 721, 722] (by decide +kernel) (by decide +kernel)
set_option maxRecDepth 20000 in
theorem gL_law_X6_moments : GoodIn wsL_law (wsV RL 94 RX6 yX6_moments wsX6_moments) := goodIn_app (goodIn_of _ (by decide +kernel)) ggL_law_X6_moments
set_option maxRecDepth 20000 in
theorem ggL_law_X7_moments : GoodIn wsL_law wsX7_moments := goodIn_r _ [461, 117, 330, 680, 681, 682, 683, 684, 685, 686, 687, 688, 689, 690, 691, 692, 693, 694, 695, 696, 697, 698, 699, 700, 701, 702, 703, 704, 705, 706, 707, 708, 709, 710, 711, 712] (by decide +kernel) (by decide +kernel)
set_option maxRecDepth 20000 in
theorem gL_law_X7_moments : GoodIn wsL_law (wsV RL 97 RX7 yX7_moments wsX7_moments) := goodIn_app (goodIn_of _ (by decide +kernel)) ggL_law_X7_moments
set_option maxRecDepth 20000 in
theorem ggL_law_L_moment : GoodIn wsL_law wsL_moment := goodIn_ca (goodIn_ca (goodIn_r _ [464, 133, 97, 465, 466, 467, 2, 468, 138, 139, 103, 104, 25, 469, 449, 213, 214, 51, 215, 190, 470, 217, 218, 219, 220, 221, 222, 223, 224, 225, 226, 227, 228, 229, 230, 231, 59, 674, 675, 676, 677, 678, 679, 717, 718, 719, 723, 724, 725, 726, 720, 721, 722] (by decide +kernel) (by decide +kernel)) (goodIn_sub (fun _ h => List.mem_append_right _ h) (by decide +kernel))) (goodIn_sub (fun _ h => List.mem_append_left _ (List.mem_append_left _ (List.mem_append_right _ h))) (by decide +kernel))
set_option maxRecDepth 20000 in
theorem gL_law_L_moment : GoodIn wsL_law (va_wsS RL 98 yL_moment wsL_moment) := goodIn_app (goodIn_of _ (by decide +kernel)) ggL_law_L_moment
set_option maxRecDepth 20000 in
theorem ggL_law_X7_moment : GoodIn wsL_law wsX7_moment := goodIn_r _ [474, 330, 117, 77, 78, 79, 475, 476, 477, 5, 478, 331, 80, 680, 681, 682, 683, 684, 685, 686, 687, 688, 689, 690, 691, 692, 693, 694, 695, 696, 697, 698, 699, 700, 701, 702, 703, 704, 705, 706, 707, 708, 709, 710, 711, 712] (by decide +kernel) (by decide +kernel)
set_option maxRecDepth 20000 in
theorem gL_law_X7_moment : GoodIn wsL_law (wsV RL 101 RX7 yX7_moment wsX7_moment) := goodIn_app (goodIn_of _ (by decide +kernel)) ggL_law_X7_moment
set_option maxRecDepth 20000 in
theorem ggL_law_L_changed : GoodIn wsL_law wsL_changed := goodIn_ca (goodIn_ca (goodIn_r _ [481, 133, 97, 482, 483, 484, 2, 485, 138, 139, 103, 104, 25, 469, 486, 449, 213, 214, 51, 215, 190, 470, 217, 218, 219, 220, 221, 222, 223, 224, 225, 226, 227, 228, 229, 230, 231, 59, 674, 675, 676, 677, 678, 679, 717, 718, 719, 723, 724, 725, 726, 727, 728, 729, 730, 720, 721, 722] (by decide +kernel) (by decide +kernel)) (goodIn_sub (fun _ h => List.mem_append_right _ h) (by decide +kernel))) (goodIn_sub (fun _ h => List.mem_append_left _ (List.mem_append_left _ (List.mem_append_right _ h))) (by decide +kernel))
set_option maxRecDepth 20000 in
theorem gL_law_L_changed : GoodIn wsL_law (va_wsS RL 102 yL_changed wsL_changed) := goodIn_app (goodIn_of _ (by decide +kernel)) ggL_law_L_changed
set_option maxRecDepth 20000 in
theorem ggL_law_X7_changed : GoodIn wsL_law wsX7_changed := goodIn_r _ [490, 330, 117, 80, 81, 83, 82, 475, 476, 477, 5, 478, 331, 680, 681, 682, 683, 684, 685, 686, 687, 688, 689, 690, 691, 692, 693, 694, 695, 696, 697, 698, 699, 700, 701, 702, 703, 704, 705, 706, 707, 708, 709, 710, 711, 712] (by decide +kernel) (by decide +kernel)
set_option maxRecDepth 20000 in
theorem gL_law_X7_changed : GoodIn wsL_law (wsV RL 104 RX7 yX7_changed wsX7_changed) := goodIn_app (goodIn_of _ (by decide +kernel)) ggL_law_X7_changed
