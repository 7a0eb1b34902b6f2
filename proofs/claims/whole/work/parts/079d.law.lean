set_option maxRecDepth 20000 in
theorem ggL_law_X5_cover : GoodIn wsL_law wsX5_cover := goodIn_r _ [436, 15, 422, 112, 437, 438, 439, 440, 14, 441, 41, 40, 387, 388, 389, 390, 391, 392, 393, 258, 259, 260, 2, 261, 262, 263, 162, 264, 33, 34, 265, 266, 267, 619, 620, 621, 622, 623, 624, 625, 626, 653, 654, 655] (by decide +kernel) (by decide +kernel)
set_option maxRecDepth 20000 in
theorem gL_law_X5_cover : GoodIn wsL_law (wsV RL 63 RX5 yX5_cover wsX5_cover) := goodIn_app (goodIn_of _ (by decide +kernel)) ggL_law_X5_cover
set_option maxRecDepth 20000 in
theorem ggL_law_X6_cover : GoodIn wsL_law wsX6_cover := goodIn_r _ [445, 87, 104, 105, 88, 89, 272, 273, 346, 347, 348, 5, 349, 282, 283, 284, 278, 279, 280, 281, 285, 286, 287, 288, 289, 290, 291, 292, 293, 93, 627, 628, 629, 630, 631, 632, 633, 634, 635, 636, 637, 638, 639, 640, 641, 642, 643, 644, 645, 646, 647, 648, 649, 650, 651, 652] (by decide +kernel) (by decide +kernel)
set_option maxRecDepth 20000 in
theorem gL_law_X6_cover : GoodIn wsL_law (wsV RL 66 RX6 yX6_cover wsX6_cover) := goodIn_app (goodIn_of _ (by decide +kernel)) ggL_law_X6_cover
set_option maxRecDepth 20000 in
theorem ggL_law_X5_won : GoodIn wsL_law wsX5_won := goodIn_r _ [449, 32, 298, 179, 180, 181, 2, 182, 17, 183, 138, 139, 140, 450, 451, 452, 31, 453, 454, 82, 81, 455, 238, 239, 19, 240, 124, 47, 254, 255, 256, 257, 51, 258, 259, 260, 261, 262, 263, 162, 264, 33, 34, 265, 266, 267, 619, 620, 621, 622, 623, 624, 625, 626, 656, 657, 658, 659, 660, 661, 662, 674, 675] (by decide +kernel) (by decide +kernel)
set_option maxRecDepth 20000 in
theorem gL_law_X5_won : GoodIn wsL_law (wsV RL 67 RX5 yX5_won wsX5_won) := goodIn_app (goodIn_of _ (by decide +kernel)) ggL_law_X5_won
set_option maxRecDepth 20000 in
theorem ggL_law_X6_won : GoodIn wsL_law wsX6_won := goodIn_r _ [459, 90, 92, 272, 273, 188, 189, 190, 5, 191, 172, 173, 174, 460, 461, 462, 463, 133, 464, 465, 466, 467, 209, 210, 211, 212, 91, 274, 275, 276, 277, 88, 89, 278, 279, 280, 281, 282, 283, 284, 285, 286, 287, 288, 289, 290, 291, 292, 293, 93, 627, 628, 629, 630, 631, 632, 633, 634, 635, 636, 637, 638, 639, 640, 641, 642, 643, 644, 645, 646, 647, 648, 649, 650, 651, 652] (by decide +kernel) (by decide +kernel)
set_option maxRecDepth 20000 in
theorem gL_law_X6_won : GoodIn wsL_law (wsV RL 70 RX6 yX6_won wsX6_won) := goodIn_app (goodIn_of _ (by decide +kernel)) ggL_law_X6_won
set_option maxRecDepth 20000 in
theorem ggL_law_X5_top : GoodIn wsL_law wsX5_top := goodIn_r _ [471, 33, 619, 620, 621, 622, 623, 624, 625, 626] (by decide +kernel) (by decide +kernel)
set_option maxRecDepth 20000 in
theorem gL_law_X5_top : GoodIn wsL_law (wsV RL 71 RX5 yX5_top wsX5_top) := goodIn_app (goodIn_of _ (by decide +kernel)) ggL_law_X5_top
set_option maxRecDepth 20000 in
theorem ggL_law_X6_top : GoodIn wsL_law wsX6_top := goodIn_r _ [475, 293, 627, 628, 629, 630, 631, 632, 633, 634, 635, 636, 637, 638, 639, 640, 641, 642, 643, 644, 645, 646, 647, 648, 649, 650, 651, 652] (by decide +kernel) (by decide +kernel)
set_option maxRecDepth 20000 in
theorem gL_law_X6_top : GoodIn wsL_law (wsV RL 75 RX6 yX6_top wsX6_top) := goodIn_app (goodIn_of _ (by decide +kernel)) ggL_law_X6_top
set_option maxRecDepth 20000 in
theorem ggL_law_X5_bottom : GoodIn wsL_law wsX5_bottom := goodIn_r _ [479, 34, 619, 620, 621, 622, 623, 624, 625, 626] (by decide +kernel) (by decide +kernel)
set_option maxRecDepth 20000 in
theorem gL_law_X5_bottom : GoodIn wsL_law (wsV RL 76 RX5 yX5_bottom wsX5_bottom) := goodIn_app (goodIn_of _ (by decide +kernel)) ggL_law_X5_bottom
set_option maxRecDepth 20000 in
theorem ggL_law_X6_bottom : GoodIn wsL_law wsX6_bottom := goodIn_r _ [483, 93, 627, 628, 629, 630, 631, 632, 633, 634, 635, 636, 637, 638, 639, 640, 641, 642, 643, 644, 645, 646, 647, 648, 649, 650, 651, 652] (by decide +kernel) (by decide +kernel)
set_option maxRecDepth 20000 in
theorem gL_law_X6_bottom : GoodIn wsL_law (wsV RL 79 RX6 yX6_bottom wsX6_bottom) := goodIn_app (goodIn_of _ (by decide +kernel)) ggL_law_X6_bottom
