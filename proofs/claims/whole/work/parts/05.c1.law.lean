set_option maxRecDepth 20000 in
theorem ggL_law_X6_distance : GoodIn wsL_law wsX6_distance := goodIn_r _ [525, 15, 114, 24, 219, 163, 164, 165, 14, 166, 42, 167, 168, 169, 170, 56, 190, 191, 192, 23, 193, 74, 194, 195, 196, 75, 197, 198, 199, 62, 63, 64, 200, 201, 202, 203, 204, 205, 206, 207, 208, 45, 209, 187, 188, 189, 780, 781, 782, 783, 784, 785, 786, 787, 827, 828, 829, 806, 807, 808, 809, 810, 811, 812, 813, 814, 815, 816, 817, 818, 819, 820] (by decide +kernel) (by decide +kernel)
set_option maxRecDepth 20000 in
theorem gL_law_X6_distance : GoodIn wsL_law (wsV RL 86 RX6 yX6_distance wsX6_distance) := goodIn_app (goodIn_of _ (by decide +kernel)) ggL_law_X6_distance
set_option maxRecDepth 20000 in
theorem ggL_law_X7_distance : GoodIn wsL_law wsX7_distance := goodIn_r _ [529, 119, 102, 225, 226, 227, 5, 228, 96, 120, 121, 122, 237, 238, 239, 240, 241, 242, 243, 244, 788, 789, 790, 791, 792, 793, 794, 795, 796, 797, 798, 799, 800, 801, 802, 803, 804, 805] (by decide +kernel) (by decide +kernel)
set_option maxRecDepth 20000 in
theorem gL_law_X7_distance : GoodIn wsL_law (wsV RL 89 RX7 yX7_distance wsX7_distance) := goodIn_app (goodIn_of _ (by decide +kernel)) ggL_law_X7_distance
set_option maxRecDepth 20000 in
theorem ggL_law_X6_retained : GoodIn wsL_law wsX6_retained := goodIn_r _ [533, 15, 114, 24, 163, 164, 165, 14, 166, 42, 167, 168, 169, 170, 56, 190, 191, 192, 23, 193, 74, 194, 195, 196, 75, 197, 198, 199, 62, 63, 64, 200, 201, 202, 203, 204, 205, 206, 207, 208, 45, 209, 187, 188, 189, 509, 510, 511, 512, 513, 147, 148, 149, 43, 44, 780, 781, 782, 783, 784, 785, 786, 787, 806, 807, 808, 809, 810, 811, 812, 813, 814, 815, 816, 817, 818, 819, 820, 827, 828, 829] (by decide +kernel) (by decide +kernel)
set_option maxRecDepth 20000 in
theorem gL_law_X6_retained : GoodIn wsL_law (wsV RL 90 RX6 yX6_retained wsX6_retained) := goodIn_app (goodIn_of _ (by decide +kernel)) ggL_law_X6_retained
set_option maxRecDepth 20000 in
theorem ggL_law_X7_retained : GoodIn wsL_law wsX7_retained := goodIn_r _ [537, 119, 102, 225, 226, 227, 5, 228, 96, 120, 121, 122, 237, 238, 239, 240, 241, 242, 243, 244, 518, 519, 520, 521, 788, 789, 790, 791, 792, 793, 794, 795, 796, 797, 798, 799, 800, 801, 802, 803, 804, 805] (by decide +kernel) (by decide +kernel)
set_option maxRecDepth 20000 in
theorem gL_law_X7_retained : GoodIn wsL_law (wsV RL 93 RX7 yX7_retained wsX7_retained) := goodIn_app (goodIn_of _ (by decide +kernel)) ggL_law_X7_retained
set_option maxRecDepth 20000 in
theorem ggL_law_X6_free : GoodIn wsL_law wsX6_free := goodIn_r _ [541, 114, 32, 15, 542, 543, 544, 545, 31, 546, 83, 547, 548, 549, 62, 63, 64, 550, 551, 552, 553, 554, 555, 556, 557, 780, 781, 782, 783, 784, 785, 786, 787, 831, 806, 807, 808, 809, 810, 811, 812, 813, 814, 815, 816, 817, 818, 819, 820] (by decide +kernel) (by decide +kernel)
set_option maxRecDepth 20000 in
theorem gL_law_X6_free : GoodIn wsL_law (wsV RL 94 RX6 yX6_free wsX6_free) := goodIn_app (goodIn_of _ (by decide +kernel)) ggL_law_X6_free
set_option maxRecDepth 20000 in
theorem ggL_law_X7_free : GoodIn wsL_law wsX7_free := goodIn_r _ [561, 119, 96, 120, 121, 5, 122, 788, 789, 790, 791, 792, 793, 794, 795, 796, 797, 798, 799, 800, 801, 802, 803, 804, 805] (by decide +kernel) (by decide +kernel)
set_option maxRecDepth 20000 in
theorem gL_law_X7_free : GoodIn wsL_law (wsV RL 97 RX7 yX7_free wsX7_free) := goodIn_app (goodIn_of _ (by decide +kernel)) ggL_law_X7_free
