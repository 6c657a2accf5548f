set_option maxRecDepth 20000 in
theorem ggL_law_X6_moved : GoodIn wsL_law wsX6_moved := goodIn_r _ [489, 15, 114, 379, 322, 490, 491, 168, 169, 14, 170, 56, 780, 781, 782, 783, 784, 785, 786, 787, 806, 807, 808, 809, 810, 811, 812, 813, 814, 815, 816, 817, 818, 819, 820] (by decide +kernel) (by decide +kernel)
set_option maxRecDepth 20000 in
theorem gL_law_X6_moved : GoodIn wsL_law (wsV RL 74 RX6 yX6_moved wsX6_moved) := goodIn_app (goodIn_of _ (by decide +kernel)) ggL_law_X6_moved
set_option maxRecDepth 20000 in
theorem ggL_law_X7_moved : GoodIn wsL_law wsX7_moved := goodIn_r _ [495, 96, 119, 332, 120, 121, 5, 122, 788, 789, 790, 791, 792, 793, 794, 795, 796, 797, 798, 799, 800, 801, 802, 803, 804, 805] (by decide +kernel) (by decide +kernel)
set_option maxRecDepth 20000 in
theorem gL_law_X7_moved : GoodIn wsL_law (wsV RL 77 RX7 yX7_moved wsX7_moved) := goodIn_app (goodIn_of _ (by decide +kernel)) ggL_law_X7_moved
set_option maxRecDepth 20000 in
theorem ggL_law_X6_report : GoodIn wsL_law wsX6_report := goodIn_r _ [499, 114, 15, 379, 322, 500, 780, 781, 782, 783, 784, 785, 786, 787, 806, 807, 808, 809, 810, 811, 812, 813, 814, 815, 816, 817, 818, 819, 820] (by decide +kernel) (by decide +kernel)
set_option maxRecDepth 20000 in
theorem gL_law_X6_report : GoodIn wsL_law (wsV RL 78 RX6 yX6_report wsX6_report) := goodIn_app (goodIn_of _ (by decide +kernel)) ggL_law_X6_report
set_option maxRecDepth 20000 in
theorem ggL_law_X7_report : GoodIn wsL_law wsX7_report := goodIn_r _ [504, 119, 96, 332, 120, 121, 5, 122, 788, 789, 790, 791, 792, 793, 794, 795, 796, 797, 798, 799, 800, 801, 802, 803, 804, 805] (by decide +kernel) (by decide +kernel)
set_option maxRecDepth 20000 in
theorem gL_law_X7_report : GoodIn wsL_law (wsV RL 81 RX7 yX7_report wsX7_report) := goodIn_app (goodIn_of _ (by decide +kernel)) ggL_law_X7_report
set_option maxRecDepth 20000 in
theorem ggL_law_X6_garbage : GoodIn wsL_law wsX6_garbage := goodIn_r _ [508, 24, 15, 190, 191, 192, 23, 193, 74, 194, 195, 196, 75, 197, 198, 199, 62, 63, 64, 200, 164, 165, 14, 166, 42, 167, 168, 169, 170, 56, 201, 202, 203, 204, 205, 206, 207, 208, 45, 209, 187, 188, 189, 381, 382, 383, 384, 509, 510, 511, 512, 513, 147, 148, 149, 43, 44, 780, 781, 782, 783, 784, 785, 786, 787, 827, 828, 829, 806, 807, 808, 809, 810, 811, 812, 813, 814, 815, 816, 817, 818, 819, 820] (by decide +kernel) (by decide +kernel)
set_option maxRecDepth 20000 in
theorem gL_law_X6_garbage : GoodIn wsL_law (wsV RL 82 RX6 yX6_garbage wsX6_garbage) := goodIn_app (goodIn_of _ (by decide +kernel)) ggL_law_X6_garbage
set_option maxRecDepth 20000 in
theorem ggL_law_X7_garbage : GoodIn wsL_law wsX7_garbage := goodIn_r _ [517, 237, 238, 239, 5, 240, 102, 96, 241, 242, 243, 244, 225, 226, 227, 228, 120, 121, 122, 456, 457, 458, 459, 518, 519, 520, 521, 788, 789, 790, 791, 792, 793, 794, 795, 796, 797, 798, 799, 800, 801, 802, 803, 804, 805] (by decide +kernel) (by decide +kernel)
set_option maxRecDepth 20000 in
theorem gL_law_X7_garbage : GoodIn wsL_law (wsV RL 85 RX7 yX7_garbage wsX7_garbage) := goodIn_app (goodIn_of _ (by decide +kernel)) ggL_law_X7_garbage
