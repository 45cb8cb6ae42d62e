set_option maxRecDepth 20000 in
theorem lwc_h : GoodIn wsL_law [Cond.code yX7_load cX7_load 2 (some .int)] := goodIn_r _ [650] (by decide +kernel) (by decide +kernel)
set_option maxRecDepth 20000 in
theorem lwc_1 : GoodIn wsL_law wsX7_load_r1 := goodIn_r _ [117, 651, 652, 653, 654, 115, 87, 562, 655, 656, 657, 5, 658, 88, 353, 89, 344, 321, 90, 361, 74, 659, 91, 92] (by decide +kernel) (by decide +kernel)
set_option maxRecDepth 20000 in
theorem lwc_2 : GoodIn wsL_law wsX7_load_r2 := goodIn_r _ [660, 661, 662, 663, 664, 86, 357, 665, 666, 667, 668, 669, 670, 671, 672, 673, 330, 331, 329, 75, 76, 322, 323, 324] (by decide +kernel) (by decide +kernel)
set_option maxRecDepth 20000 in
theorem lwc_3 : GoodIn wsL_law wsX7_load_r3 := goodIn_r _ [116, 325, 326, 327, 328, 84, 79, 77, 78, 80, 81, 82, 83, 332, 333, 334, 335, 336, 337, 338, 339, 340, 341, 342] (by decide +kernel) (by decide +kernel)
set_option maxRecDepth 20000 in
theorem lwc_4 : GoodIn wsL_law wsX7_load_r4 := goodIn_r _ [343, 345, 346, 347, 348, 349, 350, 351, 352, 354, 355, 356, 358, 359, 360, 362, 363, 364, 365, 366, 85] (by decide +kernel) (by decide +kernel)
set_option maxRecDepth 20000 in
theorem lwc_u : GoodIn wsL_law wsX70 := goodIn_r _ [680, 681, 682, 683, 684, 685, 686, 687, 688, 689, 690, 691, 692, 693, 694, 695, 696, 697, 698, 699, 700, 701, 702, 703, 704, 705, 706, 707, 708, 709, 710, 711, 712] (by decide +kernel) (by decide +kernel)
theorem ggL_law_X7_load : GoodIn wsL_law wsX7_load := goodIn_app lwc_h (goodIn_app (goodIn_app lwc_1 (goodIn_app lwc_2 (goodIn_app lwc_3 lwc_4))) lwc_u)
set_option maxRecDepth 20000 in
theorem gL_law_X7_load : GoodIn wsL_law (wsV RL 129 RX7 yX7_load wsX7_load) := goodIn_app (goodIn_of _ (by decide +kernel)) ggL_law_X7_load
