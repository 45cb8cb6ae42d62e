set_option maxRecDepth 20000 in
theorem ggL_law_X7_size : GoodIn wsL_law wsX7_size := goodIn_r _ [533, 117, 329, 680, 681, 682, 683, 684, 685, 686, 687, 688, 689, 690, 691, 692, 693, 694, 695, 696, 697, 698, 699, 700, 701, 702, 703, 704, 705, 706, 707, 708, 709, 710, 711, 712] (by decide +kernel) (by decide +kernel)
set_option maxRecDepth 20000 in
theorem gL_law_X7_size : GoodIn wsL_law (wsV RL 115 RX7 yX7_size wsX7_size) := goodIn_app (goodIn_of _ (by decide +kernel)) ggL_law_X7_size
set_option maxRecDepth 20000 in
theorem ggL_law_L_byteAt : GoodIn wsL_law wsL_byteAt := goodIn_ca (goodIn_r _ [536, 133, 537, 538, 539, 2, 540, 138, 139, 25, 541, 542, 543, 20, 544, 42, 41, 674, 675, 676, 677, 678, 679, 717, 718, 719, 715, 716] (by decide +kernel) (by decide +kernel)) (goodIn_sub (fun _ h => List.mem_append_right _ h) (by decide +kernel))
set_option maxRecDepth 20000 in
theorem gL_law_L_byteAt : GoodIn wsL_law (va_wsS RL 116 yL_byteAt wsL_byteAt) := goodIn_app (goodIn_of _ (by decide +kernel)) ggL_law_L_byteAt
set_option maxRecDepth 20000 in
theorem ggL_law_X7_byteAt : GoodIn wsL_law wsX7_byteAt := goodIn_r _ [548, 329, 117, 85, 680, 681, 682, 683, 684, 685, 686, 687, 688, 689, 690, 691, 692, 693, 694, 695, 696, 697, 698, 699, 700, 701, 702, 703, 704, 705, 706, 707, 708, 709, 710, 711, 712] (by decide +kernel) (by decide +kernel)
set_option maxRecDepth 20000 in
theorem gL_law_X7_byteAt : GoodIn wsL_law (wsV RL 118 RX7 yX7_byteAt wsX7_byteAt) := goodIn_app (goodIn_of _ (by decide +kernel)) ggL_law_X7_byteAt
set_option maxRecDepth 20000 in
theorem ggL_law_L_feed : GoodIn wsL_law wsL_feed := goodIn_ca (goodIn_r _ [551, 98, 552, 553, 554, 2, 555, 105, 106, 21, 556, 557, 243, 244, 20, 245, 42, 41, 246, 247, 248, 249, 250, 251, 252, 253, 254, 255, 40, 256, 257, 258, 259, 260, 261, 262, 263, 674, 675, 676, 677, 678, 679, 715, 716] (by decide +kernel) (by decide +kernel)) (goodIn_sub (fun _ h => List.mem_append_left _ (List.mem_append_right _ h)) (by decide +kernel))
set_option maxRecDepth 20000 in
theorem gL_law_L_feed : GoodIn wsL_law (va_wsS RL 119 yL_feed wsL_feed) := goodIn_app (goodIn_of _ (by decide +kernel)) ggL_law_L_feed
set_option maxRecDepth 20000 in
theorem ggL_law_X7_feed : GoodIn wsL_law wsX7_feed := goodIn_r _ [561, 562, 84, 117, 86, 680, 681, 682, 683, 684, 685, 686, 687, 688, 689, 690, 691, 692, 693, 694, 695, 696, 697, 698, 699, 700, 701, 702, 703, 704, 705, 706, 707, 708, 709, 710, 711, 712] (by decide +kernel) (by decide +kernel)
set_option maxRecDepth 20000 in
theorem gL_law_X7_feed : GoodIn wsL_law (wsV RL 121 RX7 yX7_feed wsX7_feed) := goodIn_app (goodIn_of _ (by decide +kernel)) ggL_law_X7_feed
set_option maxRecDepth 20000 in
theorem ggL_law_L_end : GoodIn wsL_law wsL_end := goodIn_ca (goodIn_r _ [565, 97, 566, 567, 568, 2, 569, 103, 104, 21, 570, 265, 266, 20, 267, 42, 674, 675, 676, 677, 678, 679, 715, 716] (by decide +kernel) (by decide +kernel)) (goodIn_sub (fun _ h => List.mem_append_left _ (List.mem_append_left _ (List.mem_append_right _ h))) (by decide +kernel))
set_option maxRecDepth 20000 in
theorem gL_law_L_end : GoodIn wsL_law (va_wsS RL 122 yL_end wsL_end) := goodIn_app (goodIn_of _ (by decide +kernel)) ggL_law_L_end
set_option maxRecDepth 20000 in
theorem ggL_law_X7_end : GoodIn wsL_law wsX7_end := goodIn_r _ [574, 562, 117, 680, 681, 682, 683, 684, 685, 686, 687, 688, 689, 690, 691, 692, 693, 694, 695, 696, 697, 698, 699, 700, 701, 702, 703, 704, 705, 706, 707, 708, 709, 710, 711, 712] (by decide +kernel) (by decide +kernel)
set_option maxRecDepth 20000 in
theorem gL_law_X7_end : GoodIn wsL_law (wsV RL 125 RX7 yX7_end wsX7_end) := goodIn_app (goodIn_of _ (by decide +kernel)) ggL_law_X7_end
set_option maxRecDepth 20000 in
theorem ggL_law_X6_load : GoodIn wsL_law wsX6_load := goodIn_r _ [578, 26, 579, 580, 581, 21, 17, 582, 583, 584, 24, 585, 48, 52, 53, 264, 265, 266, 20, 267, 42, 586, 587, 588, 51, 589, 272, 273, 59, 190, 590, 591, 248, 592, 593, 594, 595, 596, 12, 13, 597, 598, 599, 600, 601, 602, 603, 604, 605, 606, 607, 608, 609, 610, 611, 612, 166, 167, 613, 614, 615, 616, 617, 618, 619, 542, 543, 544, 41, 620, 203, 204, 205, 206, 207, 208, 209, 210, 211, 187, 188, 189, 212, 213, 214, 215, 216, 217, 218, 219, 220, 221, 222, 223, 224, 225, 226, 227, 228, 229, 230, 231, 621, 233, 234, 235, 236, 622, 623, 624, 625, 626, 169, 170, 171, 172, 173, 174, 50, 175, 176, 177, 56, 57, 58, 60, 61, 62, 63, 64, 65, 66, 67, 68, 69, 627, 628, 629, 630, 631, 632, 633, 389, 390, 634, 635, 636, 637, 145, 146, 16, 147, 34, 148, 141, 142, 143, 35, 638, 380, 381, 382, 639, 412, 413, 414, 401, 402, 415, 416, 640, 269, 270, 271, 274, 275, 276, 277, 278, 279, 280, 281, 282, 283, 284, 285, 286, 287, 258, 288, 289, 290, 291, 292, 293, 294, 295, 296, 297, 298, 299, 300, 301, 302, 303, 304, 305, 306, 307, 308, 309, 310, 256, 257, 259, 260, 261, 262, 263, 641, 192, 193, 194, 195, 196, 197, 198, 199, 200, 201, 202, 232, 237, 238, 239, 240, 241, 242, 243, 244, 245, 246, 247, 249, 250, 251, 252, 253, 254, 255, 40, 268, 311, 312, 313, 314, 315, 316, 570, 642, 643, 644, 2, 645, 25, 27, 28, 646, 674, 675, 676, 677, 678, 679, 731, 732, 733, 734, 735, 717, 718, 719, 715, 716, 720, 721, 722, 723, 724, 725, 726, 727, 728, 729, 730, 713, 714] (by decide +kernel) (by decide +kernel)
set_option maxRecDepth 20000 in
theorem gL_law_X6_load : GoodIn wsL_law (wsV RL 126 RX6 yX6_load wsX6_load) := goodIn_app (goodIn_of _ (by decide +kernel)) ggL_law_X6_load
