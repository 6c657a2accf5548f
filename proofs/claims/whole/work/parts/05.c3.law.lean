set_option maxRecDepth 20000 in
theorem ggL_law_X6_run : GoodIn wsL_law wsX6_run := goodIn_r _ [671, 36, 585, 322, 37, 672, 586, 587, 588, 35, 589, 590, 591, 592, 593, 594, 595, 596, 597, 87, 598, 599, 600, 601, 89, 90, 91, 88, 602, 603, 604, 605, 606, 607, 608, 609, 610, 611, 612, 613, 614, 615, 616, 617, 618, 619, 620, 621, 622, 623, 624, 625, 626, 627, 628, 673, 674, 675, 2, 676, 677, 678, 679, 680, 681, 124, 125, 126, 114, 15, 127, 128, 129, 130, 14, 131, 56, 42, 132, 133, 134, 135, 43, 44, 45, 46, 47, 58, 136, 137, 63, 138, 139, 140, 141, 142, 143, 144, 145, 146, 147, 148, 149, 682, 338, 339, 340, 341, 270, 271, 272, 273, 274, 164, 165, 166, 167, 168, 169, 170, 275, 276, 277, 683, 359, 360, 361, 362, 684, 262, 263, 264, 265, 266, 267, 268, 269, 214, 163, 685, 319, 320, 321, 216, 323, 324, 325, 326, 327, 206, 207, 208, 209, 187, 188, 189, 686, 376, 377, 378, 20, 379, 380, 381, 382, 383, 384, 385, 386, 387, 19, 388, 389, 390, 391, 392, 393, 394, 395, 396, 69, 397, 398, 399, 400, 401, 402, 403, 404, 70, 405, 406, 407, 408, 409, 410, 411, 412, 413, 414, 415, 416, 417, 418, 419, 420, 421, 422, 62, 64, 423, 424, 425, 426, 427, 428, 429, 430, 431, 432, 433, 434, 435, 436, 437, 438, 439, 440, 441, 442, 443, 444, 445, 446, 447, 448, 449, 450, 687, 688, 689, 780, 781, 782, 783, 784, 785, 786, 787, 832, 833, 834, 835, 836, 837, 838, 839, 840, 806, 807, 808, 809, 810, 811, 812, 813, 814, 815, 816, 817, 818, 819, 820, 821, 822, 823, 824, 825, 826] (by decide +kernel) (by decide +kernel)
set_option maxRecDepth 20000 in
theorem gL_law_X6_run : GoodIn wsL_law (wsV RL 110 RX6 yX6_run wsX6_run) := goodIn_app (goodIn_of _ (by decide +kernel)) ggL_law_X6_run
set_option maxRecDepth 20000 in
theorem ggL_law_X7_run : GoodIn wsL_law wsX7_run := goodIn_r _ [693, 332, 101, 634, 119, 694, 630, 631, 5, 632, 633, 635, 572, 636, 637, 638, 639, 640, 641, 642, 643, 100, 644, 645, 646, 647, 105, 648, 649, 650, 651, 652, 653, 654, 655, 656, 657, 658, 659, 120, 121, 122, 660, 661, 662, 663, 664, 665, 666, 667, 695, 696, 697, 698, 699, 151, 152, 153, 96, 154, 155, 156, 157, 158, 700, 343, 344, 345, 282, 283, 284, 285, 225, 226, 227, 228, 346, 347, 348, 349, 701, 364, 365, 366, 702, 279, 280, 281, 703, 329, 330, 331, 333, 334, 335, 336, 704, 452, 453, 454, 97, 103, 455, 456, 457, 458, 459, 460, 461, 462, 463, 464, 465, 466, 467, 468, 469, 104, 470, 471, 472, 473, 474, 475, 476, 477, 478, 479, 480, 481, 482, 483, 484, 485, 788, 789, 790, 791, 792, 793, 794, 795, 796, 797, 798, 799, 800, 801, 802, 803, 804, 805] (by decide +kernel) (by decide +kernel)
set_option maxRecDepth 20000 in
theorem gL_law_X7_run : GoodIn wsL_law (wsV RL 113 RX7 yX7_run wsX7_run) := goodIn_app (goodIn_of _ (by decide +kernel)) ggL_law_X7_run
set_option maxRecDepth 20000 in
theorem ggL_law_X6_refusal : GoodIn wsL_law wsX6_refusal := goodIn_r _ [708, 37, 780, 781, 782, 783, 784, 785, 786, 787] (by decide +kernel) (by decide +kernel)
set_option maxRecDepth 20000 in
theorem gL_law_X6_refusal : GoodIn wsL_law (wsV RL 114 RX6 yX6_refusal wsX6_refusal) := goodIn_app (goodIn_of _ (by decide +kernel)) ggL_law_X6_refusal
set_option maxRecDepth 20000 in
theorem ggL_law_X7_refusal : GoodIn wsL_law wsX7_refusal := goodIn_r _ [712, 101, 788, 789, 790, 791, 792, 793, 794, 795, 796, 797, 798, 799, 800, 801, 802, 803, 804, 805] (by decide +kernel) (by decide +kernel)
set_option maxRecDepth 20000 in
theorem gL_law_X7_refusal : GoodIn wsL_law (wsV RL 117 RX7 yX7_refusal wsX7_refusal) := goodIn_app (goodIn_of _ (by decide +kernel)) ggL_law_X7_refusal
set_option maxRecDepth 20000 in
theorem ggL_law_X6_save : GoodIn wsL_law wsX6_save := goodIn_r _ [716, 114, 16, 12, 13, 14, 15, 38, 39, 40, 10, 11, 41, 42, 43, 44, 45, 46, 47, 48, 49, 50, 51, 717, 718, 719, 720, 56, 57, 58, 59, 60, 447, 448, 449, 450, 721, 722, 723, 724, 209, 187, 188, 189, 167, 168, 169, 170, 780, 781, 782, 783, 784, 785, 786, 787, 806, 807, 808, 809, 810, 811, 812, 813, 814, 815, 816, 817, 818, 819, 820] (by decide +kernel) (by decide +kernel)
set_option maxRecDepth 20000 in
theorem gL_law_X6_save : GoodIn wsL_law (wsV RL 118 RX6 yX6_save wsX6_save) := goodIn_app (goodIn_of _ (by decide +kernel)) ggL_law_X6_save
set_option maxRecDepth 20000 in
theorem ggL_law_X7_save : GoodIn wsL_law wsX7_save := goodIn_r _ [728, 119, 98, 96, 99, 120, 121, 5, 122, 333, 334, 335, 336, 788, 789, 790, 791, 792, 793, 794, 795, 796, 797, 798, 799, 800, 801, 802, 803, 804, 805] (by decide +kernel) (by decide +kernel)
set_option maxRecDepth 20000 in
theorem gL_law_X7_save : GoodIn wsL_law (wsV RL 121 RX7 yX7_save wsX7_save) := goodIn_app (goodIn_of _ (by decide +kernel)) ggL_law_X7_save
