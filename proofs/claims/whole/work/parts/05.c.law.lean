set_option maxRecDepth 20000 in
theorem ggL_law_X6_moved : GoodIn wsL_law wsX6_moved := goodIn_r _ [489, 15, 114, 379, 322, 490, 491, 168, 169, 14, 170, 56, 780, 781, 782, 783, 784, 785, 786, 787, 806, 807, 808, 809, 810, 811, 812, 813, 814, 815, 816, 817, 818, 819, 820] (by decide +kernel) (by decide +kernel)
set_option maxRecDepth 20000 in
theorem gL_law_X6_moved : GoodIn wsL_law (wsV RL 74 RX6 yX6_moved wsX6_moved) := goodIn_app (goodIn_of _ (by decide +kernel)) ggL_law_X6_moved
set_option maxRecDepth 20000 in
theorem ggL_law_X7_moved : GoodIn wsL_law wsX7_moved := goodIn_r _ [495, 96, 119, 332, 120, 121, 5, 122, 788, 789, 790, 791, 792, 793, 794, 795, 796, 797, 798, 799, 800, 801, 802, 803, 804, 805] (by decide +kernel) (by decide +kernel)
set_option maxRecDepth 20000 in
theorem gL_law_X7_moved : GoodIn wsL_law (wsV RL 77 RX7 yX7_moved wsX7_moved) := goodIn_app (goodIn_of _ (by decide +kernel)) ggL_law_X7_moved
set_option maxRecDepth 20000 in
theorem ggL_law_X6_report : GoodIn wsL_law wsX6_report := goodIn_r _ [499, 114, 15, 379, 322, 500, 780, 781, 782, 783, 784, 785, 786, 787, 806, 807, 808, 809, 810, 811, 812, 813, 814, 815, 816, 817, 818, 819, 820] (by decide +kernel) (by decide +kernel)
set_option maxRecDepth 20000 in
theorem gL_law_X6_report : GoodIn wsL_law (wsV RL 78 RX6 yX6_report wsX6_report) := goodIn_app (goodIn_of _ (by decide +kernel)) ggL_law_X6_report
set_option maxRecDepth 20000 in
theorem ggL_law_X7_report : GoodIn wsL_law wsX7_report := goodIn_r _ [504, 119, 96, 332, 120, 121, 5, 122, 788, 789, 790, 791, 792, 793, 794, 795, 796, 797, 798, 799, 800, 801, 802, 803, 804, 805] (by decide +kernel) (by decide +kernel)
set_option maxRecDepth 20000 in
theorem gL_law_X7_report : GoodIn wsL_law (wsV RL 81 RX7 yX7_report wsX7_report) := goodIn_app (goodIn_of _ (by decide +kernel)) ggL_law_X7_report
set_option maxRecDepth 20000 in
theorem ggL_law_X6_garbage : GoodIn wsL_law wsX6_garbage := goodIn_r _ [508, 24, 15, 190, 191, 192, 23, 193, 74, 194, 195, 196, 75, 197, 198, 199, 62, 63, 64, 200, 164, 165, 14, 166, 42, 167, 168, 169, 170, 56, 201, 202, 203, 204, 205, 206, 207, 208, 45, 209, 187, 188, 189, 381, 382, 383, 384, 509, 510, 511, 512, 513, 147, 148, 149, 43, 44, 780, 781, 782, 783, 784, 785, 786, 787, 827, 828, 829, 806, 807, 808, 809, 810, 811, 812, 813, 814, 815, 816, 817, 818, 819, 820] (by decide +kernel) (by decide +kernel)
set_option maxRecDepth 20000 in
theorem gL_law_X6_garbage : GoodIn wsL_law (wsV RL 82 RX6 yX6_garbage wsX6_garbage) := goodIn_app (goodIn_of _ (by decide +kernel)) ggL_law_X6_garbage
set_option maxRecDepth 20000 in
theorem ggL_law_X7_garbage : GoodIn wsL_law wsX7_garbage := goodIn_r _ [517, 237, 238, 239, 5, 240, 102, 96, 241, 242, 243, 244, 225, 226, 227, 228, 120, 121, 122, 456, 457, 458, 459, 518, 519, 520, 521, 788, 789, 790, 791, 792, 793, 794, 795, 796, 797, 798, 799, 800, 801, 802, 803, 804, 805] (by decide +kernel) (by decide +kernel)
set_option maxRecDepth 20000 in
theorem gL_law_X7_garbage : GoodIn wsL_law (wsV RL 85 RX7 yX7_garbage wsX7_garbage) := goodIn_app (goodIn_of _ (by decide +kernel)) ggL_law_X7_garbage
set_option maxRecDepth 20000 in
theorem ggL_law_X6_distance : GoodIn wsL_law wsX6_distance := goodIn_r _ [525, 15, 114, 24, 219, 163, 164, 165, 14, 166, 42, 167, 168, 169, 170, 56, 190, 191, 192, 23, 193, 74, 194, 195, 196, 75, 197, 198, 199, 62, 63, 64, 200, 201, 202, 203, 204, 205, 206, 207, 208, 45, 209, 187, 188, 189, 780, 781, 782, 783, 784, 785, 786, 787, 827, 828, 829, 806, 807, 808, 809, 810, 811, 812, 813, 814, 815, 816, 817, 818, 819, 820] (by decide +kernel) (by decide +kernel)
set_option maxRecDepth 20000 in
theorem gL_law_X6_distance : GoodIn wsL_law (wsV RL 86 RX6 yX6_distance wsX6_distance) := goodIn_app (goodIn_of _ (by decide +kernel)) ggL_law_X6_distance
set_option maxRecDepth 20000 in
theorem ggL_law_X7_distance : GoodIn wsL_law wsX7_distance := goodIn_r _ [529, 119, 102, 225, 226, 227, 5, 228, 96, 120, 121, 122, 237, 238, 239, 240, 241, 242, 243, 244, 788, 789, 790, 791, 792, 793, 794, 795, 796, 797, 798, 799, 800, 801, 802, 803, 804, 805] (by decide +kernel) (by decide +kernel)
set_option maxRecDepth 20000 in
theorem gL_law_X7_distance : GoodIn wsL_law (wsV RL 89 RX7 yX7_distance wsX7_distance) := goodIn_app (goodIn_of _ (by decide +kernel)) ggL_law_X7_distance
set_option maxRecDepth 20000 in
theorem ggL_law_X6_retained : GoodIn wsL_law wsX6_retained := goodIn_r _ [533, 15, 114, 24, 163, 164, 165, 14, 166, 42, 167, 168, 169, 170, 56, 190, 191, 192, 23, 193, 74, 194, 195, 196, 75, 197, 198, 199, 62, 63, 64, 200, 201, 202, 203, 204, 205, 206, 207, 208, 45, 209, 187, 188, 189, 509, 510, 511, 512, 513, 147, 148, 149, 43, 44, 780, 781, 782, 783, 784, 785, 786, 787, 806, 807, 808, 809, 810, 811, 812, 813, 814, 815, 816, 817, 818, 819, 820, 827, 828, 829] (by decide +kernel) (by decide +kernel)
set_option maxRecDepth 20000 in
theorem gL_law_X6_retained : GoodIn wsL_law (wsV RL 90 RX6 yX6_retained wsX6_retained) := goodIn_app (goodIn_of _ (by decide +kernel)) ggL_law_X6_retained
set_option maxRecDepth 20000 in
theorem ggL_law_X7_retained : GoodIn wsL_law wsX7_retained := goodIn_r _ [537, 119, 102, 225, 226, 227, 5, 228, 96, 120, 121, 122, 237, 238, 239, 240, 241, 242, 243, 244, 518, 519, 520, 521, 788, 789, 790, 791, 792, 793, 794, 795, 796, 797, 798, 799, 800, 801, 802, 803, 804, 805] (by decide +kernel) (by decide +kernel)
set_option maxRecDepth 20000 in
theorem gL_law_X7_retained : GoodIn wsL_law (wsV RL 93 RX7 yX7_retained wsX7_retained) := goodIn_app (goodIn_of _ (by decide +kernel)) ggL_law_X7_retained
set_option maxRecDepth 20000 in
theorem ggL_law_X6_free : GoodIn wsL_law wsX6_free := goodIn_r _ [541, 114, 32, 15, 542, 543, 544, 545, 31, 546, 83, 547, 548, 549, 62, 63, 64, 550, 551, 552, 553, 554, 555, 556, 557, 780, 781, 782, 783, 784, 785, 786, 787, 831, 806, 807, 808, 809, 810, 811, 812, 813, 814, 815, 816, 817, 818, 819, 820] (by decide +kernel) (by decide +kernel)
set_option maxRecDepth 20000 in
theorem gL_law_X6_free : GoodIn wsL_law (wsV RL 94 RX6 yX6_free wsX6_free) := goodIn_app (goodIn_of _ (by decide +kernel)) ggL_law_X6_free
set_option maxRecDepth 20000 in
theorem ggL_law_X7_free : GoodIn wsL_law wsX7_free := goodIn_r _ [561, 119, 96, 120, 121, 5, 122, 788, 789, 790, 791, 792, 793, 794, 795, 796, 797, 798, 799, 800, 801, 802, 803, 804, 805] (by decide +kernel) (by decide +kernel)
set_option maxRecDepth 20000 in
theorem gL_law_X7_free : GoodIn wsL_law (wsV RL 97 RX7 yX7_free wsX7_free) := goodIn_app (goodIn_of _ (by decide +kernel)) ggL_law_X7_free
set_option maxRecDepth 20000 in
theorem ggL_law_X6_type : GoodIn wsL_law wsX6_type := goodIn_r _ [565, 114, 36, 566, 127, 567, 780, 781, 782, 783, 784, 785, 786, 787, 832, 833, 834, 835, 836, 837, 838, 839, 840] (by decide +kernel) (by decide +kernel)
set_option maxRecDepth 20000 in
theorem gL_law_X6_type : GoodIn wsL_law (wsV RL 98 RX6 yX6_type wsX6_type) := goodIn_app (goodIn_of _ (by decide +kernel)) ggL_law_X6_type
set_option maxRecDepth 20000 in
theorem ggL_law_X7_type : GoodIn wsL_law wsX7_type := goodIn_r _ [571, 119, 572, 154, 100, 120, 121, 5, 122, 788, 789, 790, 791, 792, 793, 794, 795, 796, 797, 798, 799, 800, 801, 802, 803, 804, 805] (by decide +kernel) (by decide +kernel)
set_option maxRecDepth 20000 in
theorem gL_law_X7_type : GoodIn wsL_law (wsV RL 101 RX7 yX7_type wsX7_type) := goodIn_app (goodIn_of _ (by decide +kernel)) ggL_law_X7_type
set_option maxRecDepth 20000 in
theorem ggL_law_X6_clearText : GoodIn wsL_law wsX6_clearText := goodIn_r _ [576, 36, 566, 780, 781, 782, 783, 784, 785, 786, 787, 832, 833, 834, 835, 836, 837, 838, 839, 840] (by decide +kernel) (by decide +kernel)
set_option maxRecDepth 20000 in
theorem gL_law_X6_clearText : GoodIn wsL_law (wsV RL 102 RX6 yX6_clearText wsX6_clearText) := goodIn_app (goodIn_of _ (by decide +kernel)) ggL_law_X6_clearText
set_option maxRecDepth 20000 in
theorem ggL_law_X7_clearText : GoodIn wsL_law wsX7_clearText := goodIn_r _ [580, 572, 788, 789, 790, 791, 792, 793, 794, 795, 796, 797, 798, 799, 800, 801, 802, 803, 804, 805] (by decide +kernel) (by decide +kernel)
set_option maxRecDepth 20000 in
theorem gL_law_X7_clearText : GoodIn wsL_law (wsV RL 105 RX7 yX7_clearText wsX7_clearText) := goodIn_app (goodIn_of _ (by decide +kernel)) ggL_law_X7_clearText
set_option maxRecDepth 20000 in
theorem ggL_law_X6_fault : GoodIn wsL_law wsX6_fault := goodIn_r _ [584, 36, 585, 586, 587, 588, 35, 589, 590, 591, 592, 593, 594, 595, 596, 597, 87, 598, 599, 600, 601, 89, 90, 91, 88, 602, 603, 604, 605, 606, 607, 608, 609, 610, 611, 612, 613, 614, 615, 616, 617, 618, 619, 620, 621, 622, 623, 624, 625, 626, 627, 628, 780, 781, 782, 783, 784, 785, 786, 787, 832, 833, 834, 835, 836, 837, 838, 839, 840] (by decide +kernel) (by decide +kernel)
set_option maxRecDepth 20000 in
theorem gL_law_X6_fault : GoodIn wsL_law (wsV RL 106 RX6 yX6_fault wsX6_fault) := goodIn_app (goodIn_of _ (by decide +kernel)) ggL_law_X6_fault
set_option maxRecDepth 20000 in
theorem ggL_law_X7_fault : GoodIn wsL_law wsX7_fault := goodIn_r _ [632, 633, 634, 635, 572, 636, 637, 638, 5, 639, 640, 641, 642, 643, 100, 644, 645, 646, 647, 105, 648, 649, 650, 651, 652, 653, 654, 655, 656, 657, 658, 659, 120, 121, 122, 660, 661, 662, 663, 664, 665, 666, 667, 788, 789, 790, 791, 792, 793, 794, 795, 796, 797, 798, 799, 800, 801, 802, 803, 804, 805] (by decide +kernel) (by decide +kernel)
set_option maxRecDepth 20000 in
theorem gL_law_X7_fault : GoodIn wsL_law (wsV RL 109 RX7 yX7_fault wsX7_fault) := goodIn_app (goodIn_of _ (by decide +kernel)) ggL_law_X7_fault
set_option maxRecDepth 20000 in
theorem ggL_law_X6_run : GoodIn wsL_law wsX6_run := goodIn_r _ [671, 36, 585, 322, 37, 672, 586, 587, 588, 35, 589, 590, 591, 592, 593, 594, 595, 596, 597, 87, 598, 599, 600, 601, 89, 90, 91, 88, 602, 603, 604, 605, 606, 607, 608, 609, 610, 611, 612, 613, 614, 615, 616, 617, 618, 619, 620, 621, 622, 623, 624, 625, 626, 627, 628, 673, 674, 675, 2, 676, 677, 678, 679, 680, 681, 124, 125, 126, 114, 15, 127, 128, 129, 130, 14, 131, 56, 42, 132, 133, 134, 135, 43, 44, 45, 46, 47, 58, 136, 137, 63, 138, 139, 140, 141, 142, 143, 144, 145, 146, 147, 148, 149, 682, 338, 339, 340, 341, 270, 271, 272, 273, 274, 164, 165, 166, 167, 168, 169, 170, 275, 276, 277, 683, 359, 360, 361, 362, 684, 262, 263, 264, 265, 266, 267, 268, 269, 214, 163, 685, 319, 320, 321, 216, 323, 324, 325, 326, 327, 206, 207, 208, 209, 187, 188, 189, 686, 376, 377, 378, 20, 379, 380, 381, 382, 383, 384, 385, 386, 387, 19, 388, 389, 390, 391, 392, 393, 394, 395, 396, 69, 397, 398, 399, 400, 401, 402, 403, 404, 70, 405, 406, 407, 408, 409, 410, 411, 412, 413, 414, 415, 416, 417, 418, 419, 420, 421, 422, 62, 64, 423, 424, 425, 426, 427, 428, 429, 430, 431, 432, 433, 434, 435, 436, 437, 438, 439, 440, 441, 442, 443, 444, 445, 446, 447, 448, 449, 450, 687, 688, 689, 780, 781, 782, 783, 784, 785, 786, 787, 832, 833, 834, 835, 836, 837, 838, 839, 840, 806, 807, 808, 809, 810, 811, 812, 813, 814, 815, 816, 817, 818, 819, 820, 821, 822, 823, 824, 825, 826] (by decide +kernel) (by decide +kernel)
set_option maxRecDepth 20000 in
theorem gL_law_X6_run : GoodIn wsL_law (wsV RL 110 RX6 yX6_run wsX6_run) := goodIn_app (goodIn_of _ (by decide +kernel)) ggL_law_X6_run
set_option maxRecDepth 20000 in
theorem ggL_law_X7_run : GoodIn wsL_law wsX7_run := goodIn_r _ [693, 332, 101, 634, 119, 694, 630, 631, 5, 632, 633, 635, 572, 636, 637, 638, 639, 640, 641, 642, 643, 100, 644, 645, 646, 647, 105, 648, 649, 650, 651, 652, 653, 654, 655, 656, 657, 658, 659, 120, 121, 122, 660, 661, 662, 663, 664, 665, 666, 667, 695, 696, 697, 698, 699, 151, 152, 153, 96, 154, 155, 156, 157, 158, 700, 343, 344, 345, 282, 283, 284, 285, 225, 226, 227, 228, 346, 347, 348, 349, 701, 364, 365, 366, 702, 279, 280, 281, 703, 329, 330, 331, 333, 334, 335, 336, 704, 452, 453, 454, 97, 103, 455, 456, 457, 458, 459, 460, 461, 462, 463, 464, 465, 466, 467, 468, 469, 104, 470, 471, 472, 473, 474, 475, 476, 477, 478, 479, 480, 481, 482, 483, 484, 485, 788, 789, 790, 791, 792, 793, 794, 795, 796, 797, 798, 799, 800, 801, 802, 803, 804, 805] (by decide +kernel) (by decide +kernel)
set_option maxRecDepth 20000 in
theorem gL_law_X7_run : GoodIn wsL_law (wsV RL 113 RX7 yX7_run wsX7_run) := goodIn_app (goodIn_of _ (by decide +kernel)) ggL_law_X7_run
set_option maxRecDepth 20000 in
theorem ggL_law_X6_refusal : GoodIn wsL_law wsX6_refusal := goodIn_r _ [708, 37, 780, 781, 782, 783, 784, 785, 786, 787] (by decide +kernel) (by decide +kernel)
set_option maxRecDepth 20000 in
theorem gL_law_X6_refusal : GoodIn wsL_law (wsV RL 114 RX6 yX6_refusal wsX6_refusal) := goodIn_app (goodIn_of _ (by decide +kernel)) ggL_law_X6_refusal
set_option maxRecDepth 20000 in
theorem ggL_law_X7_refusal : GoodIn wsL_law wsX7_refusal := goodIn_r _ [712, 101, 788, 789, 790, 791, 792, 793, 794, 795, 796, 797, 798, 799, 800, 801, 802, 803, 804, 805] (by decide +kernel) (by decide +kernel)
set_option maxRecDepth 20000 in
theorem gL_law_X7_refusal : GoodIn wsL_law (wsV RL 117 RX7 yX7_refusal wsX7_refusal) := goodIn_app (goodIn_of _ (by decide +kernel)) ggL_law_X7_refusal
set_option maxRecDepth 20000 in
theorem ggL_law_X6_save : GoodIn wsL_law wsX6_save := goodIn_r _ [716, 114, 16, 12, 13, 14, 15, 38, 39, 40, 10, 11, 41, 42, 43, 44, 45, 46, 47, 48, 49, 50, 51, 717, 718, 719, 720, 56, 57, 58, 59, 60, 447, 448, 449, 450, 721, 722, 723, 724, 209, 187, 188, 189, 167, 168, 169, 170, 780, 781, 782, 783, 784, 785, 786, 787, 806, 807, 808, 809, 810, 811, 812, 813, 814, 815, 816, 817, 818, 819, 820] (by decide +kernel) (by decide +kernel)
set_option maxRecDepth 20000 in
theorem gL_law_X6_save : GoodIn wsL_law (wsV RL 118 RX6 yX6_save wsX6_save) := goodIn_app (goodIn_of _ (by decide +kernel)) ggL_law_X6_save
set_option maxRecDepth 20000 in
theorem ggL_law_X7_save : GoodIn wsL_law wsX7_save := goodIn_r _ [728, 119, 98, 96, 99, 120, 121, 5, 122, 333, 334, 335, 336, 788, 789, 790, 791, 792, 793, 794, 795, 796, 797, 798, 799, 800, 801, 802, 803, 804, 805] (by decide +kernel) (by decide +kernel)
set_option maxRecDepth 20000 in
theorem gL_law_X7_save : GoodIn wsL_law (wsV RL 121 RX7 yX7_save wsX7_save) := goodIn_app (goodIn_of _ (by decide +kernel)) ggL_law_X7_save
set_option maxRecDepth 20000 in
theorem ggL_law_X6_restore : GoodIn wsL_law wsX6_restore := goodIn_r _ [732, 114, 16, 322, 15, 717, 718, 719, 14, 720, 56, 57, 58, 59, 60, 42, 447, 448, 449, 450, 43, 44, 45, 46, 47, 48, 49, 50, 51, 721, 722, 723, 724, 209, 187, 188, 189, 167, 168, 169, 170, 780, 781, 782, 783, 784, 785, 786, 787, 806, 807, 808, 809, 810, 811, 812, 813, 814, 815, 816, 817, 818, 819, 820] (by decide +kernel) (by decide +kernel)
set_option maxRecDepth 20000 in
theorem gL_law_X6_restore : GoodIn wsL_law (wsV RL 122 RX6 yX6_restore wsX6_restore) := goodIn_app (goodIn_of _ (by decide +kernel)) ggL_law_X6_restore
set_option maxRecDepth 20000 in
theorem ggL_law_X7_restore : GoodIn wsL_law wsX7_restore := goodIn_r _ [736, 119, 99, 332, 96, 98, 120, 121, 5, 122, 333, 334, 335, 336, 788, 789, 790, 791, 792, 793, 794, 795, 796, 797, 798, 799, 800, 801, 802, 803, 804, 805] (by decide +kernel) (by decide +kernel)
set_option maxRecDepth 20000 in
theorem gL_law_X7_restore : GoodIn wsL_law (wsV RL 125 RX7 yX7_restore wsX7_restore) := goodIn_app (goodIn_of _ (by decide +kernel)) ggL_law_X7_restore
set_option maxRecDepth 20000 in
theorem ggL_law_X6_count : GoodIn wsL_law wsX6_count := goodIn_r _ [740, 15, 741, 742, 743, 379, 380, 36, 566, 114, 721, 722, 723, 14, 724, 56, 209, 187, 188, 189, 42, 167, 168, 169, 170, 323, 324, 325, 326, 327, 206, 207, 208, 45, 780, 781, 782, 783, 784, 785, 786, 787, 806, 807, 808, 809, 810, 811, 812, 813, 814, 815, 816, 817, 818, 819, 820, 832, 833, 834, 835, 836, 837, 838, 839, 840] (by decide +kernel) (by decide +kernel)
set_option maxRecDepth 20000 in
theorem gL_law_X6_count : GoodIn wsL_law (wsV RL 126 RX6 yX6_count wsX6_count) := goodIn_app (goodIn_of _ (by decide +kernel)) ggL_law_X6_count
set_option maxRecDepth 20000 in
theorem ggL_law_X7_count : GoodIn wsL_law wsX7_count := goodIn_r _ [747, 96, 572, 119, 333, 334, 335, 5, 336, 788, 789, 790, 791, 792, 793, 794, 795, 796, 797, 798, 799, 800, 801, 802, 803, 804, 805] (by decide +kernel) (by decide +kernel)
set_option maxRecDepth 20000 in
theorem gL_law_X7_count : GoodIn wsL_law (wsV RL 129 RX7 yX7_count wsX7_count) := goodIn_app (goodIn_of _ (by decide +kernel)) ggL_law_X7_count
set_option maxRecDepth 20000 in
theorem ggL_law_X6_digest : GoodIn wsL_law wsX6_digest := goodIn_r _ [751, 752, 15, 341, 362, 32, 542, 379, 500, 36, 567, 566, 753, 738, 739, 2, 740, 741, 742, 743, 380, 114, 721, 722, 723, 14, 724, 56, 209, 187, 188, 189, 42, 167, 168, 169, 170, 323, 324, 325, 326, 327, 206, 207, 208, 45, 754, 755, 756, 757, 758, 759, 760, 761, 762, 763, 764, 28, 24, 265, 171, 172, 173, 27, 174, 79, 175, 176, 177, 178, 179, 180, 62, 63, 64, 181, 182, 183, 184, 185, 164, 165, 166, 186, 190, 191, 192, 23, 193, 74, 194, 195, 196, 75, 197, 198, 199, 200, 201, 202, 203, 204, 205, 765, 210, 211, 212, 213, 214, 215, 216, 217, 218, 219, 220, 147, 148, 149, 43, 44, 543, 544, 545, 31, 546, 83, 547, 548, 549, 550, 551, 552, 553, 554, 555, 556, 557, 780, 781, 782, 783, 784, 785, 786, 787, 806, 807, 808, 809, 810, 811, 812, 813, 814, 815, 816, 817, 818, 819, 820, 831, 832, 833, 834, 835, 836, 837, 838, 839, 840, 830, 827, 828, 829] (by decide +kernel) (by decide +kernel)
set_option maxRecDepth 20000 in
theorem gL_law_X6_digest : GoodIn wsL_law (wsV RL 130 RX6 yX6_digest wsX6_digest) := goodIn_app (goodIn_of _ (by decide +kernel)) ggL_law_X6_digest
set_option maxRecDepth 20000 in
theorem ggL_law_X7_digest : GoodIn wsL_law wsX7_digest := goodIn_r _ [769, 770, 771, 96, 572, 100, 772, 745, 746, 5, 747, 119, 333, 334, 335, 336, 773, 774, 775, 776, 777, 257, 258, 259, 260, 778, 222, 223, 224, 102, 225, 226, 227, 228, 120, 121, 122, 229, 230, 231, 232, 233, 234, 235, 236, 237, 238, 239, 240, 241, 242, 243, 244, 779, 559, 560, 561, 788, 789, 790, 791, 792, 793, 794, 795, 796, 797, 798, 799, 800, 801, 802, 803, 804, 805] (by decide +kernel) (by decide +kernel)
set_option maxRecDepth 20000 in
theorem gL_law_X7_digest : GoodIn wsL_law (wsV RL 134 RX7 yX7_digest wsX7_digest) := goodIn_app (goodIn_of _ (by decide +kernel)) ggL_law_X7_digest
