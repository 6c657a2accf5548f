set_option maxRecDepth 20000 in
theorem ggL_law_X6_restore : GoodIn wsL_law wsX6_restore := goodIn_r _ [732, 114, 16, 322, 15, 717, 718, 719, 14, 720, 56, 57, 58, 59, 60, 42, 447, 448, 449, 450, 43, 44, 45, 46, 47, 48, 49, 50, 51, 721, 722, 723, 724, 209, 187, 188, 189, 167, 168, 169, 170, 780, 781, 782, 783, 784, 785, 786, 787, 806, 807, 808, 809, 810, 811, 812, 813, 814, 815, 816, 817, 818, 819, 820] (by decide +kernel) (by decide +kernel)
set_option maxRecDepth 20000 in
theorem gL_law_X6_restore : GoodIn wsL_law (wsV RL 122 RX6 yX6_restore wsX6_restore) := goodIn_app (goodIn_of _ (by decide +kernel)) ggL_law_X6_restore
set_option maxRecDepth 20000 in
theorem ggL_law_X7_restore : GoodIn wsL_law wsX7_restore := goodIn_r _ [736, 119, 99, 332, 96, 98, 120, 121, 5, 122, 333, 334, 335, 336, 788, 789, 790, 791, 792, 793, 794, 795, 796, 797, 798, 799, 800, 801, 802, 803, 804, 805] (by decide +kernel) (by decide +kernel)
set_option maxRecDepth 20000 in
theorem gL_law_X7_restore : GoodIn wsL_law (wsV RL 125 RX7 yX7_restore wsX7_restore) := goodIn_app (goodIn_of _ (by decide +kernel)) ggL_law_X7_restore
set_option maxRecDepth 20000 in
theorem ggL_law_X6_count : GoodIn wsL_law wsX6_count := goodIn_r _ [740, 15, 741, 742, 743, 379, 380, 36, 566, 114, 721, 722, 723, 14, 724, 56, 209, 187, 188, 189, 42, 167, 168, 169, 170, 323, 324, 325, 326, 327, 206, 207, 208, 45, 780, 781, 782, 783, 784, 785, 786, 787, 806, 807, 808, 809, 810, 811, 812, 813, 814, 815, 816, 817, 818, 819, 820, 832, 833, 834, 835, 836, 837, 838, 839, 840] (by decide +kernel) (by decide +kernel)
set_option maxRecDepth 20000 in
theorem gL_law_X6_count : GoodIn wsL_law (wsV RL 126 RX6 yX6_count wsX6_count) := goodIn_app (goodIn_of _ (by decide +kernel)) ggL_law_X6_count
set_option maxRecDepth 20000 in
theorem ggL_law_X7_count : GoodIn wsL_law wsX7_count := goodIn_r _ [747, 96, 572, 119, 333, 334, 335, 5, 336, 788, 789, 790, 791, 792, 793, 794, 795, 796, 797, 798, 799, 800, 801, 802, 803, 804, 805] (by decide +kernel) (by decide +kernel)
set_option maxRecDepth 20000 in
theorem gL_law_X7_count : GoodIn wsL_law (wsV RL 129 RX7 yX7_count wsX7_count) := goodIn_app (goodIn_of _ (by decide +kernel)) ggL_law_X7_count
set_option maxRecDepth 20000 in
theorem ggL_law_X6_digest : GoodIn wsL_law wsX6_digest := goodIn_r _ [751, 752, 15, 341, 362, 32, 542, 379, 500, 36, 567, 566, 753, 738, 739, 2, 740, 741, 742, 743, 380, 114, 721, 722, 723, 14, 724, 56, 209, 187, 188, 189, 42, 167, 168, 169, 170, 323, 324, 325, 326, 327, 206, 207, 208, 45, 754, 755, 756, 757, 758, 759, 760, 761, 762, 763, 764, 28, 24, 265, 171, 172, 173, 27, 174, 79, 175, 176, 177, 178, 179, 180, 62, 63, 64, 181, 182, 183, 184, 185, 164, 165, 166, 186, 190, 191, 192, 23, 193, 74, 194, 195, 196, 75, 197, 198, 199, 200, 201, 202, 203, 204, 205, 765, 210, 211, 212, 213, 214, 215, 216, 217, 218, 219, 220, 147, 148, 149, 43, 44, 543, 544, 545, 31, 546, 83, 547, 548, 549, 550, 551, 552, 553, 554, 555, 556, 557, 780, 781, 782, 783, 784, 785, 786, 787, 806, 807, 808, 809, 810, 811, 812, 813, 814, 815, 816, 817, 818, 819, 820, 831, 832, 833, 834, 835, 836, 837, 838, 839, 840, 830, 827, 828, 829] (by decide +kernel) (by decide +kernel)
set_option maxRecDepth 20000 in
theorem gL_law_X6_digest : GoodIn wsL_law (wsV RL 130 RX6 yX6_digest wsX6_digest) := goodIn_app (goodIn_of _ (by decide +kernel)) ggL_law_X6_digest
set_option maxRecDepth 20000 in
theorem ggL_law_X7_digest : GoodIn wsL_law wsX7_digest := goodIn_r _ [769, 770, 771, 96, 572, 100, 772, 745, 746, 5, 747, 119, 333, 334, 335, 336, 773, 774, 775, 776, 777, 257, 258, 259, 260, 778, 222, 223, 224, 102, 225, 226, 227, 228, 120, 121, 122, 229, 230, 231, 232, 233, 234, 235, 236, 237, 238, 239, 240, 241, 242, 243, 244, 779, 559, 560, 561, 788, 789, 790, 791, 792, 793, 794, 795, 796, 797, 798, 799, 800, 801, 802, 803, 804, 805] (by decide +kernel) (by decide +kernel)
set_option maxRecDepth 20000 in
theorem gL_law_X7_digest : GoodIn wsL_law (wsV RL 134 RX7 yX7_digest wsX7_digest) := goodIn_app (goodIn_of _ (by decide +kernel)) ggL_law_X7_digest
