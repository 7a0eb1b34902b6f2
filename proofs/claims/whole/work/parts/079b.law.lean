set_option maxRecDepth 20000 in
theorem ggL_law_X5_tell : GoodIn wsL_law wsX5_tell := goodIn_r _ [195, 183, 196, 179, 180, 181, 2, 182, 17, 138, 139, 140, 197, 198, 199, 19, 200, 124, 47, 656, 657, 658, 659, 660, 661, 662, 619, 620, 621, 622, 623, 624, 625, 626] (by decide +kernel) (by decide +kernel)
set_option maxRecDepth 20000 in
theorem gL_law_X5_tell : GoodIn wsL_law (wsV RL 28 RX5 yX5_tell wsX5_tell) := goodIn_app (goodIn_of _ (by decide +kernel)) ggL_law_X5_tell
set_option maxRecDepth 20000 in
theorem ggL_law_X6_tell : GoodIn wsL_law wsX6_tell := goodIn_r _ [204, 90, 188, 189, 190, 5, 191, 172, 173, 174, 205, 206, 207, 208, 87, 209, 210, 211, 212, 91, 627, 628, 629, 630, 631, 632, 633, 634, 635, 636, 637, 638, 639, 640, 641, 642, 643, 644, 645, 646, 647, 648, 649, 650, 651, 652] (by decide +kernel) (by decide +kernel)
set_option maxRecDepth 20000 in
theorem gL_law_X6_tell : GoodIn wsL_law (wsV RL 32 RX6 yX6_tell wsX6_tell) := goodIn_app (goodIn_of _ (by decide +kernel)) ggL_law_X6_tell
set_option maxRecDepth 20000 in
theorem ggL_law_X5_laps : GoodIn wsL_law wsX5_laps := goodIn_r _ [216, 179, 180, 181, 2, 182, 17, 183, 138, 139, 140, 217, 218, 219, 19, 220, 124, 160, 161, 162, 163, 164, 165, 166, 167, 49, 48, 619, 620, 621, 622, 623, 624, 625, 626, 656, 657, 658, 659, 660, 661, 662] (by decide +kernel) (by decide +kernel)
set_option maxRecDepth 20000 in
theorem gL_law_X5_laps : GoodIn wsL_law (wsV RL 33 RX5 yX5_laps wsX5_laps) := goodIn_app (goodIn_of _ (by decide +kernel)) ggL_law_X5_laps
set_option maxRecDepth 20000 in
theorem ggL_law_X6_laps : GoodIn wsL_law wsX6_laps := goodIn_r _ [224, 188, 189, 190, 5, 191, 90, 172, 173, 174, 225, 226, 227, 228, 209, 210, 211, 212, 91, 627, 628, 629, 630, 631, 632, 633, 634, 635, 636, 637, 638, 639, 640, 641, 642, 643, 644, 645, 646, 647, 648, 649, 650, 651, 652] (by decide +kernel) (by decide +kernel)
set_option maxRecDepth 20000 in
theorem gL_law_X6_laps : GoodIn wsL_law (wsV RL 36 RX6 yX6_laps wsX6_laps) := goodIn_app (goodIn_of _ (by decide +kernel)) ggL_law_X6_laps
set_option maxRecDepth 20000 in
theorem ggL_law_X5_within : GoodIn wsL_law wsX5_within := goodIn_r _ [232, 179, 180, 181, 2, 182, 17, 183, 138, 139, 140, 233, 234, 235, 19, 236, 124, 47, 237, 238, 239, 240, 619, 620, 621, 622, 623, 624, 625, 626, 656, 657, 658, 659, 660, 661, 662] (by decide +kernel) (by decide +kernel)
set_option maxRecDepth 20000 in
theorem gL_law_X5_within : GoodIn wsL_law (wsV RL 37 RX5 yX5_within wsX5_within) := goodIn_app (goodIn_of _ (by decide +kernel)) ggL_law_X5_within
set_option maxRecDepth 20000 in
theorem ggL_law_X6_within : GoodIn wsL_law wsX6_within := goodIn_r _ [244, 188, 189, 190, 5, 191, 90, 172, 173, 174, 245, 246, 247, 248, 209, 210, 211, 212, 91, 627, 628, 629, 630, 631, 632, 633, 634, 635, 636, 637, 638, 639, 640, 641, 642, 643, 644, 645, 646, 647, 648, 649, 650, 651, 652] (by decide +kernel) (by decide +kernel)
set_option maxRecDepth 20000 in
theorem gL_law_X6_within : GoodIn wsL_law (wsV RL 41 RX6 yX6_within wsX6_within) := goodIn_app (goodIn_of _ (by decide +kernel)) ggL_law_X6_within
set_option maxRecDepth 20000 in
theorem ggL_law_X5_lead : GoodIn wsL_law wsX5_lead := goodIn_r _ [252, 179, 180, 181, 2, 182, 17, 183, 138, 139, 140, 253, 157, 158, 19, 159, 124, 160, 161, 162, 163, 51, 164, 165, 166, 167, 49, 48, 254, 255, 256, 257, 258, 259, 260, 261, 262, 263, 264, 33, 34, 265, 266, 267, 619, 620, 621, 622, 623, 624, 625, 626, 656, 657, 658, 659, 660, 661, 662] (by decide +kernel) (by decide +kernel)
set_option maxRecDepth 20000 in
theorem gL_law_X5_lead : GoodIn wsL_law (wsV RL 42 RX5 yX5_lead wsX5_lead) := goodIn_app (goodIn_of _ (by decide +kernel)) ggL_law_X5_lead
set_option maxRecDepth 20000 in
theorem ggL_law_X6_lead : GoodIn wsL_law wsX6_lead := goodIn_r _ [271, 272, 273, 188, 189, 190, 5, 191, 90, 172, 173, 174, 225, 226, 227, 228, 209, 210, 211, 212, 91, 274, 275, 276, 277, 88, 89, 278, 279, 280, 281, 282, 283, 284, 285, 286, 287, 288, 289, 290, 291, 292, 293, 93, 627, 628, 629, 630, 631, 632, 633, 634, 635, 636, 637, 638, 639, 640, 641, 642, 643, 644, 645, 646, 647, 648, 649, 650, 651, 652] (by decide +kernel) (by decide +kernel)
set_option maxRecDepth 20000 in
theorem gL_law_X6_lead : GoodIn wsL_law (wsV RL 45 RX6 yX6_lead wsX6_lead) := goodIn_app (goodIn_of _ (by decide +kernel)) ggL_law_X6_lead
