set_option maxRecDepth 20000 in
theorem ggL_law_X5_init : GoodIn wsL_law wsX5_init := goodIn_r _ [8, 9, 10, 11, 12, 13, 14, 15, 16, 17, 18, 19, 20, 21, 22, 23, 24, 25, 26, 27, 28, 29, 30, 31, 32, 33, 34, 35, 36, 37, 38, 39, 40, 41, 42, 43, 44, 45, 46, 47, 48, 49, 50, 51, 52, 53, 54, 55, 56, 57, 58, 59, 60, 61, 62, 63, 64, 65, 66, 67, 68, 69, 70, 71, 72, 73, 74, 75, 76, 77, 78, 79, 80, 81, 82, 653, 654, 655, 619, 620, 621, 622, 623, 624, 625, 626, 656, 657, 658, 659, 660, 661, 662, 663, 664, 665, 666, 667, 668, 669, 670, 671, 672, 673, 674, 675] (by decide +kernel) (by decide +kernel)
set_option maxRecDepth 20000 in
theorem gL_law_X5_init : GoodIn wsL_law (wsX5_init) := ggL_law_X5_init
set_option maxRecDepth 20000 in
theorem ggL_law_X6_init : GoodIn wsL_law wsX6_init := goodIn_r _ [85, 86, 10, 11, 87, 88, 39, 89, 90, 91, 92, 93, 94, 95, 96, 97, 50, 98, 99, 100, 101, 102, 103, 104, 105, 106, 107, 627, 628, 629, 630, 631, 632, 633, 634, 635, 636, 637, 638, 639, 640, 641, 642, 643, 644, 645, 646, 647, 648, 649, 650, 651, 652] (by decide +kernel) (by decide +kernel)
set_option maxRecDepth 20000 in
theorem gL_law_X6_init : GoodIn wsL_law (wsX6_init) := ggL_law_X6_init
set_option maxRecDepth 20000 in
theorem ggL_law_X5_source : GoodIn wsL_law wsX5_source := goodIn_r _ [111, 15, 17, 32, 112, 113, 114, 115, 14, 116, 40, 41, 42, 117, 118, 119, 120, 121, 122, 19, 123, 124, 125, 126, 127, 31, 128, 82, 619, 620, 621, 622, 623, 624, 625, 626, 653, 654, 655, 656, 657, 658, 659, 660, 661, 662, 674, 675] (by decide +kernel) (by decide +kernel)
set_option maxRecDepth 20000 in
theorem gL_law_X5_source : GoodIn wsL_law (wsV RL 13 RX5 yX5_source wsX5_source) := goodIn_app (goodIn_of _ (by decide +kernel)) ggL_law_X5_source
set_option maxRecDepth 20000 in
theorem ggL_law_X6_source : GoodIn wsL_law wsX6_source := goodIn_r _ [132, 87, 88, 89, 90, 133, 627, 628, 629, 630, 631, 632, 633, 634, 635, 636, 637, 638, 639, 640, 641, 642, 643, 644, 645, 646, 647, 648, 649, 650, 651, 652] (by decide +kernel) (by decide +kernel)
set_option maxRecDepth 20000 in
theorem gL_law_X6_source : GoodIn wsL_law (wsV RL 17 RX6 yX6_source wsX6_source) := goodIn_app (goodIn_of _ (by decide +kernel)) ggL_law_X6_source
set_option maxRecDepth 20000 in
theorem ggL_law_X5_word : GoodIn wsL_law wsX5_word := goodIn_r _ [137, 17, 15, 138, 139, 2, 140, 141, 142, 143, 19, 144, 145, 124, 146, 47, 49, 48, 147, 148, 149, 150, 151, 152, 153, 51, 154, 155, 156, 157, 158, 159, 160, 161, 162, 163, 164, 165, 166, 167, 619, 620, 621, 622, 623, 624, 625, 626, 653, 654, 655, 656, 657, 658, 659, 660, 661, 662] (by decide +kernel) (by decide +kernel)
set_option maxRecDepth 20000 in
theorem gL_law_X5_word : GoodIn wsL_law (wsV RL 18 RX5 yX5_word wsX5_word) := goodIn_app (goodIn_of _ (by decide +kernel)) ggL_law_X5_word
set_option maxRecDepth 20000 in
theorem ggL_law_X6_word : GoodIn wsL_law wsX6_word := goodIn_r _ [171, 87, 90, 91, 172, 173, 5, 174, 627, 628, 629, 630, 631, 632, 633, 634, 635, 636, 637, 638, 639, 640, 641, 642, 643, 644, 645, 646, 647, 648, 649, 650, 651, 652] (by decide +kernel) (by decide +kernel)
set_option maxRecDepth 20000 in
theorem gL_law_X6_word : GoodIn wsL_law (wsV RL 22 RX6 yX6_word wsX6_word) := goodIn_app (goodIn_of _ (by decide +kernel)) ggL_law_X6_word
set_option maxRecDepth 20000 in
theorem ggL_law_X5_drop : GoodIn wsL_law wsX5_drop := goodIn_r _ [178, 179, 180, 181, 2, 182, 17, 183, 138, 139, 140, 120, 121, 122, 19, 123, 124, 619, 620, 621, 622, 623, 624, 625, 626, 656, 657, 658, 659, 660, 661, 662] (by decide +kernel) (by decide +kernel)
set_option maxRecDepth 20000 in
theorem gL_law_X5_drop : GoodIn wsL_law (wsV RL 23 RX5 yX5_drop wsX5_drop) := goodIn_app (goodIn_of _ (by decide +kernel)) ggL_law_X5_drop
set_option maxRecDepth 20000 in
theorem ggL_law_X6_drop : GoodIn wsL_law wsX6_drop := goodIn_r _ [187, 90, 188, 189, 190, 5, 191, 172, 173, 174, 627, 628, 629, 630, 631, 632, 633, 634, 635, 636, 637, 638, 639, 640, 641, 642, 643, 644, 645, 646, 647, 648, 649, 650, 651, 652] (by decide +kernel) (by decide +kernel)
set_option maxRecDepth 20000 in
theorem gL_law_X6_drop : GoodIn wsL_law (wsV RL 27 RX6 yX6_drop wsX6_drop) := goodIn_app (goodIn_of _ (by decide +kernel)) ggL_law_X6_drop
