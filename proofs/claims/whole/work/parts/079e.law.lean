set_option maxRecDepth 20000 in
theorem ggL_law_X5_times : GoodIn wsL_law wsX5_times := goodIn_r _ [487, 488, 15, 112, 28, 179, 180, 181, 2, 182, 17, 183, 138, 139, 140, 489, 490, 491, 427, 148, 149, 492, 493, 494, 27, 495, 69, 70, 73, 76, 496, 497, 498, 499, 500, 501, 502, 503, 504, 505, 506, 507, 508, 509, 71, 510, 511, 512, 513, 514, 74, 515, 161, 162, 163, 516, 517, 518, 519, 520, 521, 522, 75, 523, 524, 525, 526, 527, 619, 620, 621, 622, 623, 624, 625, 626, 653, 654, 655, 656, 657, 658, 659, 660, 661, 662, 667, 668, 669, 670, 671, 672, 673] (by decide +kernel) (by decide +kernel)
set_option maxRecDepth 20000 in
theorem gL_law_X5_times : GoodIn wsL_law (wsV RL 80 RX5 yX5_times wsX5_times) := goodIn_app (goodIn_of _ (by decide +kernel)) ggL_law_X5_times
set_option maxRecDepth 20000 in
theorem ggL_law_X6_times_ : GoodIn wsL_law wsX6_times_ := goodIn_r _ [531, 532, 188, 189, 190, 5, 191, 90, 172, 173, 174, 533, 534, 535, 536, 88, 537, 538, 539, 540, 106, 107, 87, 89, 541, 542, 543, 544, 209, 210, 211, 212, 91, 545, 546, 547, 548, 549, 550, 551, 627, 628, 629, 630, 631, 632, 633, 634, 635, 636, 637, 638, 639, 640, 641, 642, 643, 644, 645, 646, 647, 648, 649, 650, 651, 652] (by decide +kernel) (by decide +kernel)
set_option maxRecDepth 20000 in
theorem gL_law_X6_times_ : GoodIn wsL_law (wsV RL 84 RX6 yX6_times_ wsX6_times_) := goodIn_app (goodIn_of _ (by decide +kernel)) ggL_law_X6_times_
set_option maxRecDepth 20000 in
theorem ggL_law_X5_never : GoodIn wsL_law wsX5_never := goodIn_r _ [555, 488, 28, 15, 489, 490, 2, 491, 492, 493, 494, 27, 495, 69, 70, 73, 76, 496, 497, 498, 499, 179, 180, 181, 182, 17, 183, 138, 139, 140, 500, 501, 502, 503, 504, 505, 506, 507, 508, 509, 71, 510, 511, 512, 513, 514, 74, 515, 161, 162, 163, 516, 517, 518, 519, 520, 521, 522, 75, 523, 524, 525, 526, 527, 619, 620, 621, 622, 623, 624, 625, 626, 667, 668, 669, 670, 671, 672, 673, 656, 657, 658, 659, 660, 661, 662, 653, 654, 655] (by decide +kernel) (by decide +kernel)
set_option maxRecDepth 20000 in
theorem gL_law_X5_never : GoodIn wsL_law (wsV RL 85 RX5 yX5_never wsX5_never) := goodIn_app (goodIn_of _ (by decide +kernel)) ggL_law_X5_never
set_option maxRecDepth 20000 in
theorem ggL_law_X6_never : GoodIn wsL_law wsX6_never := goodIn_r _ [559, 532, 172, 173, 5, 174, 537, 538, 539, 540, 106, 107, 87, 90, 89, 541, 542, 543, 544, 209, 210, 211, 212, 91, 545, 546, 547, 548, 549, 550, 551, 627, 628, 629, 630, 631, 632, 633, 634, 635, 636, 637, 638, 639, 640, 641, 642, 643, 644, 645, 646, 647, 648, 649, 650, 651, 652] (by decide +kernel) (by decide +kernel)
set_option maxRecDepth 20000 in
theorem gL_law_X6_never : GoodIn wsL_law (wsV RL 89 RX6 yX6_never wsX6_never) := goodIn_app (goodIn_of _ (by decide +kernel)) ggL_law_X6_never
set_option maxRecDepth 20000 in
theorem ggL_law_X5_covered : GoodIn wsL_law wsX5_covered := goodIn_r _ [563, 488, 15, 422, 489, 490, 2, 491, 438, 439, 440, 14, 441, 41, 40, 427, 148, 149, 387, 388, 389, 390, 391, 392, 393, 619, 620, 621, 622, 623, 624, 625, 626, 653, 654, 655] (by decide +kernel) (by decide +kernel)
set_option maxRecDepth 20000 in
theorem gL_law_X5_covered : GoodIn wsL_law (wsV RL 90 RX5 yX5_covered wsX5_covered) := goodIn_app (goodIn_of _ (by decide +kernel)) ggL_law_X5_covered
set_option maxRecDepth 20000 in
theorem ggL_law_X6_covered : GoodIn wsL_law wsX6_covered := goodIn_r _ [567, 532, 106, 107, 87, 89, 172, 173, 5, 174, 627, 628, 629, 630, 631, 632, 633, 634, 635, 636, 637, 638, 639, 640, 641, 642, 643, 644, 645, 646, 647, 648, 649, 650, 651, 652] (by decide +kernel) (by decide +kernel)
set_option maxRecDepth 20000 in
theorem gL_law_X6_covered : GoodIn wsL_law (wsV RL 94 RX6 yX6_covered wsX6_covered) := goodIn_app (goodIn_of _ (by decide +kernel)) ggL_law_X6_covered
set_option maxRecDepth 20000 in
theorem ggL_law_X5_draw : GoodIn wsL_law wsX5_draw := goodIn_r _ [571, 32, 572, 15, 125, 126, 127, 31, 128, 82, 573, 574, 575, 14, 576, 42, 41, 40, 577, 578, 579, 580, 81, 619, 620, 621, 622, 623, 624, 625, 626, 674, 675, 653, 654, 655] (by decide +kernel) (by decide +kernel)
set_option maxRecDepth 20000 in
theorem gL_law_X5_draw : GoodIn wsL_law (wsV RL 95 RX5 yX5_draw wsX5_draw) := goodIn_app (goodIn_of _ (by decide +kernel)) ggL_law_X5_draw
set_option maxRecDepth 20000 in
theorem ggL_law_X6_draw : GoodIn wsL_law wsX6_draw := goodIn_r _ [584, 585, 88, 89, 92, 133, 172, 173, 5, 174, 627, 628, 629, 630, 631, 632, 633, 634, 635, 636, 637, 638, 639, 640, 641, 642, 643, 644, 645, 646, 647, 648, 649, 650, 651, 652] (by decide +kernel) (by decide +kernel)
set_option maxRecDepth 20000 in
theorem gL_law_X6_draw : GoodIn wsL_law (wsV RL 98 RX6 yX6_draw wsX6_draw) := goodIn_app (goodIn_of _ (by decide +kernel)) ggL_law_X6_draw
