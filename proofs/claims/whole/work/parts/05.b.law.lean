set_option maxRecDepth 20000 in
theorem ggL_law_X6_init : GoodIn wsL_law wsX6_init := goodIn_r _ [8, 9, 10, 11, 12, 13, 14, 15, 16, 17, 18, 19, 20, 21, 22, 23, 24, 25, 26, 27, 28, 29, 30, 31, 32, 33, 34, 35, 36, 37, 38, 39, 40, 41, 42, 43, 44, 45, 46, 47, 48, 49, 50, 51, 52, 53, 54, 55, 56, 57, 58, 59, 60, 61, 62, 63, 64, 65, 66, 67, 68, 69, 70, 71, 72, 73, 74, 75, 76, 77, 78, 79, 80, 81, 82, 83, 84, 85, 86, 87, 88, 89, 90, 91, 806, 807, 808, 809, 810, 811, 812, 813, 814, 815, 816, 817, 818, 819, 820, 780, 781, 782, 783, 784, 785, 786, 787, 821, 822, 823, 824, 825, 826, 827, 828, 829, 830, 831, 832, 833, 834, 835, 836, 837, 838, 839, 840] (by decide +kernel) (by decide +kernel)
set_option maxRecDepth 20000 in
theorem gL_law_X6_init : GoodIn wsL_law (wsX6_init) := ggL_law_X6_init
set_option maxRecDepth 20000 in
theorem ggL_law_X7_init : GoodIn wsL_law wsX7_init := goodIn_r _ [94, 95, 10, 11, 41, 96, 97, 98, 68, 99, 100, 101, 102, 103, 104, 105, 106, 107, 108, 5, 109, 788, 789, 790, 791, 792, 793, 794, 795, 796, 797, 798, 799, 800, 801, 802, 803, 804, 805] (by decide +kernel) (by decide +kernel)
set_option maxRecDepth 20000 in
theorem gL_law_X7_init : GoodIn wsL_law (wsX7_init) := ggL_law_X7_init
set_option maxRecDepth 20000 in
theorem ggL_law_X6_reset : GoodIn wsL_law wsX6_reset := goodIn_r _ [113, 114, 15, 52, 53, 54, 14, 55, 56, 57, 58, 59, 60, 42, 48, 49, 61, 62, 63, 64, 780, 781, 782, 783, 784, 785, 786, 787, 806, 807, 808, 809, 810, 811, 812, 813, 814, 815, 816, 817, 818, 819, 820] (by decide +kernel) (by decide +kernel)
set_option maxRecDepth 20000 in
theorem gL_law_X6_reset : GoodIn wsL_law (wsV RL 13 RX6 yX6_reset wsX6_reset) := goodIn_app (goodIn_of _ (by decide +kernel)) ggL_law_X6_reset
set_option maxRecDepth 20000 in
theorem ggL_law_X7_reset : GoodIn wsL_law wsX7_reset := goodIn_r _ [118, 119, 120, 121, 5, 122, 106, 107, 108, 109, 96, 788, 789, 790, 791, 792, 793, 794, 795, 796, 797, 798, 799, 800, 801, 802, 803, 804, 805] (by decide +kernel) (by decide +kernel)
set_option maxRecDepth 20000 in
theorem gL_law_X7_reset : GoodIn wsL_law (wsV RL 17 RX7 yX7_reset wsX7_reset) := goodIn_app (goodIn_of _ (by decide +kernel)) ggL_law_X7_reset
set_option maxRecDepth 20000 in
theorem ggL_law_X6_alloc : GoodIn wsL_law wsX6_alloc := goodIn_r _ [126, 114, 15, 127, 128, 129, 130, 14, 131, 56, 42, 132, 133, 134, 135, 43, 44, 45, 46, 47, 58, 136, 137, 63, 138, 139, 140, 141, 142, 143, 144, 145, 146, 147, 148, 149, 780, 781, 782, 783, 784, 785, 786, 787, 806, 807, 808, 809, 810, 811, 812, 813, 814, 815, 816, 817, 818, 819, 820] (by decide +kernel) (by decide +kernel)
set_option maxRecDepth 20000 in
theorem gL_law_X6_alloc : GoodIn wsL_law (wsV RL 18 RX6 yX6_alloc wsX6_alloc) := goodIn_app (goodIn_of _ (by decide +kernel)) ggL_law_X6_alloc
set_option maxRecDepth 20000 in
theorem ggL_law_X7_alloc : GoodIn wsL_law wsX7_alloc := goodIn_r _ [153, 119, 96, 154, 120, 121, 5, 122, 155, 156, 157, 158, 788, 789, 790, 791, 792, 793, 794, 795, 796, 797, 798, 799, 800, 801, 802, 803, 804, 805] (by decide +kernel) (by decide +kernel)
set_option maxRecDepth 20000 in
theorem gL_law_X7_alloc : GoodIn wsL_law (wsV RL 21 RX7 yX7_alloc wsX7_alloc) := goodIn_app (goodIn_of _ (by decide +kernel)) ggL_law_X7_alloc
set_option maxRecDepth 20000 in
theorem ggL_law_X6_object : GoodIn wsL_law wsX6_object := goodIn_r _ [162, 15, 114, 28, 24, 163, 164, 165, 14, 166, 42, 167, 168, 169, 170, 56, 171, 172, 173, 27, 174, 79, 175, 176, 177, 178, 179, 180, 62, 63, 64, 181, 182, 183, 184, 185, 186, 187, 188, 189, 190, 191, 192, 23, 193, 74, 194, 195, 196, 75, 197, 198, 199, 200, 201, 202, 203, 204, 205, 206, 207, 208, 45, 209, 210, 211, 212, 2, 213, 214, 215, 216, 217, 218, 219, 220, 147, 148, 149, 43, 44, 780, 781, 782, 783, 784, 785, 786, 787, 806, 807, 808, 809, 810, 811, 812, 813, 814, 815, 816, 817, 818, 819, 820, 830, 827, 828, 829] (by decide +kernel) (by decide +kernel)
set_option maxRecDepth 20000 in
theorem gL_law_X6_object : GoodIn wsL_law (wsV RL 22 RX6 yX6_object wsX6_object) := goodIn_app (goodIn_of _ (by decide +kernel)) ggL_law_X6_object
set_option maxRecDepth 20000 in
theorem ggL_law_X7_object : GoodIn wsL_law wsX7_object := goodIn_r _ [224, 119, 96, 102, 225, 226, 227, 5, 228, 120, 121, 122, 229, 230, 231, 232, 233, 234, 235, 236, 237, 238, 239, 240, 241, 242, 243, 244, 788, 789, 790, 791, 792, 793, 794, 795, 796, 797, 798, 799, 800, 801, 802, 803, 804, 805] (by decide +kernel) (by decide +kernel)
set_option maxRecDepth 20000 in
theorem gL_law_X7_object : GoodIn wsL_law (wsV RL 25 RX7 yX7_object wsX7_object) := goodIn_app (goodIn_of _ (by decide +kernel)) ggL_law_X7_object
set_option maxRecDepth 20000 in
theorem ggL_law_X6_next : GoodIn wsL_law wsX6_next := goodIn_r _ [248, 15, 114, 249, 250, 251, 14, 252, 56, 209, 187, 188, 189, 42, 167, 168, 169, 170, 163, 164, 165, 166, 220, 147, 148, 149, 43, 44, 780, 781, 782, 783, 784, 785, 786, 787, 806, 807, 808, 809, 810, 811, 812, 813, 814, 815, 816, 817, 818, 819, 820] (by decide +kernel) (by decide +kernel)
set_option maxRecDepth 20000 in
theorem gL_law_X6_next : GoodIn wsL_law (wsV RL 26 RX6 yX6_next wsX6_next) := goodIn_app (goodIn_of _ (by decide +kernel)) ggL_law_X6_next
set_option maxRecDepth 20000 in
theorem ggL_law_X7_next : GoodIn wsL_law wsX7_next := goodIn_r _ [256, 119, 257, 258, 259, 5, 260, 96, 225, 226, 227, 228, 120, 121, 122, 788, 789, 790, 791, 792, 793, 794, 795, 796, 797, 798, 799, 800, 801, 802, 803, 804, 805] (by decide +kernel) (by decide +kernel)
set_option maxRecDepth 20000 in
theorem gL_law_X7_next : GoodIn wsL_law (wsV RL 30 RX7 yX7_next wsX7_next) := goodIn_app (goodIn_of _ (by decide +kernel)) ggL_law_X7_next
set_option maxRecDepth 20000 in
theorem ggL_law_X6_setField : GoodIn wsL_law wsX6_setField := goodIn_r _ [264, 15, 114, 265, 266, 267, 268, 2, 269, 214, 163, 164, 165, 14, 166, 42, 167, 168, 169, 170, 56, 270, 271, 272, 273, 274, 275, 276, 277, 780, 781, 782, 783, 784, 785, 786, 787, 806, 807, 808, 809, 810, 811, 812, 813, 814, 815, 816, 817, 818, 819, 820] (by decide +kernel) (by decide +kernel)
set_option maxRecDepth 20000 in
theorem gL_law_X6_setField : GoodIn wsL_law (wsV RL 31 RX6 yX6_setField wsX6_setField) := goodIn_app (goodIn_of _ (by decide +kernel)) ggL_law_X6_setField
set_option maxRecDepth 20000 in
theorem ggL_law_X7_setField : GoodIn wsL_law wsX7_setField := goodIn_r _ [281, 96, 119, 225, 226, 227, 5, 228, 120, 121, 122, 282, 283, 284, 285, 788, 789, 790, 791, 792, 793, 794, 795, 796, 797, 798, 799, 800, 801, 802, 803, 804, 805] (by decide +kernel) (by decide +kernel)
set_option maxRecDepth 20000 in
theorem gL_law_X7_setField : GoodIn wsL_law (wsV RL 35 RX7 yX7_setField wsX7_setField) := goodIn_app (goodIn_of _ (by decide +kernel)) ggL_law_X7_setField
set_option maxRecDepth 20000 in
theorem ggL_law_X6_field : GoodIn wsL_law wsX6_field := goodIn_r _ [289, 114, 15, 265, 266, 267, 268, 2, 269, 214, 163, 164, 165, 14, 166, 42, 167, 168, 169, 170, 56, 780, 781, 782, 783, 784, 785, 786, 787, 806, 807, 808, 809, 810, 811, 812, 813, 814, 815, 816, 817, 818, 819, 820] (by decide +kernel) (by decide +kernel)
set_option maxRecDepth 20000 in
theorem gL_law_X6_field : GoodIn wsL_law (wsV RL 36 RX6 yX6_field wsX6_field) := goodIn_app (goodIn_of _ (by decide +kernel)) ggL_law_X6_field
set_option maxRecDepth 20000 in
theorem ggL_law_X7_field : GoodIn wsL_law wsX7_field := goodIn_r _ [293, 96, 119, 225, 226, 227, 5, 228, 120, 121, 122, 788, 789, 790, 791, 792, 793, 794, 795, 796, 797, 798, 799, 800, 801, 802, 803, 804, 805] (by decide +kernel) (by decide +kernel)
set_option maxRecDepth 20000 in
theorem gL_law_X7_field : GoodIn wsL_law (wsV RL 39 RX7 yX7_field wsX7_field) := goodIn_app (goodIn_of _ (by decide +kernel)) ggL_law_X7_field
set_option maxRecDepth 20000 in
theorem ggL_law_X6_setData : GoodIn wsL_law wsX6_setData := goodIn_r _ [297, 298, 299, 114, 15, 265, 300, 301, 302, 2, 303, 215, 214, 163, 164, 165, 14, 166, 42, 167, 168, 169, 170, 56, 275, 276, 277, 780, 781, 782, 783, 784, 785, 786, 787, 806, 807, 808, 809, 810, 811, 812, 813, 814, 815, 816, 817, 818, 819, 820] (by decide +kernel) (by decide +kernel)
set_option maxRecDepth 20000 in
theorem gL_law_X6_setData : GoodIn wsL_law (wsV RL 40 RX6 yX6_setData wsX6_setData) := goodIn_app (goodIn_of _ (by decide +kernel)) ggL_law_X6_setData
set_option maxRecDepth 20000 in
theorem ggL_law_X7_setData : GoodIn wsL_law wsX7_setData := goodIn_r _ [307, 308, 309, 119, 96, 225, 226, 227, 5, 228, 120, 121, 122, 229, 230, 231, 232, 788, 789, 790, 791, 792, 793, 794, 795, 796, 797, 798, 799, 800, 801, 802, 803, 804, 805] (by decide +kernel) (by decide +kernel)
set_option maxRecDepth 20000 in
theorem gL_law_X7_setData : GoodIn wsL_law (wsV RL 43 RX7 yX7_setData wsX7_setData) := goodIn_app (goodIn_of _ (by decide +kernel)) ggL_law_X7_setData
set_option maxRecDepth 20000 in
theorem ggL_law_X6_data : GoodIn wsL_law wsX6_data := goodIn_r _ [313, 114, 15, 265, 300, 301, 302, 2, 303, 215, 214, 163, 164, 165, 14, 166, 42, 167, 168, 169, 170, 56, 780, 781, 782, 783, 784, 785, 786, 787, 806, 807, 808, 809, 810, 811, 812, 813, 814, 815, 816, 817, 818, 819, 820] (by decide +kernel) (by decide +kernel)
set_option maxRecDepth 20000 in
theorem gL_law_X6_data : GoodIn wsL_law (wsV RL 44 RX6 yX6_data wsX6_data) := goodIn_app (goodIn_of _ (by decide +kernel)) ggL_law_X6_data
set_option maxRecDepth 20000 in
theorem ggL_law_X7_data : GoodIn wsL_law wsX7_data := goodIn_r _ [317, 119, 96, 225, 226, 227, 5, 228, 120, 121, 122, 229, 230, 231, 232, 788, 789, 790, 791, 792, 793, 794, 795, 796, 797, 798, 799, 800, 801, 802, 803, 804, 805] (by decide +kernel) (by decide +kernel)
set_option maxRecDepth 20000 in
theorem gL_law_X7_data : GoodIn wsL_law (wsV RL 47 RX7 yX7_data wsX7_data) := goodIn_app (goodIn_of _ (by decide +kernel)) ggL_law_X7_data
set_option maxRecDepth 20000 in
theorem ggL_law_X6_pin : GoodIn wsL_law wsX6_pin := goodIn_r _ [321, 15, 114, 216, 322, 163, 164, 165, 14, 166, 42, 167, 168, 169, 170, 56, 323, 324, 325, 326, 327, 206, 207, 208, 45, 209, 187, 188, 189, 780, 781, 782, 783, 784, 785, 786, 787, 806, 807, 808, 809, 810, 811, 812, 813, 814, 815, 816, 817, 818, 819, 820] (by decide +kernel) (by decide +kernel)
set_option maxRecDepth 20000 in
theorem gL_law_X6_pin : GoodIn wsL_law (wsV RL 48 RX6 yX6_pin wsX6_pin) := goodIn_app (goodIn_of _ (by decide +kernel)) ggL_law_X6_pin
set_option maxRecDepth 20000 in
theorem ggL_law_X7_pin : GoodIn wsL_law wsX7_pin := goodIn_r _ [331, 119, 96, 332, 225, 226, 227, 5, 228, 120, 121, 122, 333, 334, 335, 336, 788, 789, 790, 791, 792, 793, 794, 795, 796, 797, 798, 799, 800, 801, 802, 803, 804, 805] (by decide +kernel) (by decide +kernel)
set_option maxRecDepth 20000 in
theorem gL_law_X7_pin : GoodIn wsL_law (wsV RL 52 RX7 yX7_pin wsX7_pin) := goodIn_app (goodIn_of _ (by decide +kernel)) ggL_law_X7_pin
set_option maxRecDepth 20000 in
theorem ggL_law_X6_setRoot : GoodIn wsL_law wsX6_setRoot := goodIn_r _ [340, 15, 114, 341, 270, 271, 272, 14, 273, 274, 164, 165, 166, 42, 167, 168, 169, 170, 56, 275, 276, 2, 277, 780, 781, 782, 783, 784, 785, 786, 787, 806, 807, 808, 809, 810, 811, 812, 813, 814, 815, 816, 817, 818, 819, 820] (by decide +kernel) (by decide +kernel)
set_option maxRecDepth 20000 in
theorem gL_law_X6_setRoot : GoodIn wsL_law (wsV RL 53 RX6 yX6_setRoot wsX6_setRoot) := goodIn_app (goodIn_of _ (by decide +kernel)) ggL_law_X6_setRoot
set_option maxRecDepth 20000 in
theorem ggL_law_X7_setRoot : GoodIn wsL_law wsX7_setRoot := goodIn_r _ [345, 119, 120, 121, 5, 122, 282, 283, 284, 285, 225, 226, 227, 228, 96, 346, 347, 348, 349, 788, 789, 790, 791, 792, 793, 794, 795, 796, 797, 798, 799, 800, 801, 802, 803, 804, 805] (by decide +kernel) (by decide +kernel)
set_option maxRecDepth 20000 in
theorem gL_law_X7_setRoot : GoodIn wsL_law (wsV RL 56 RX7 yX7_setRoot wsX7_setRoot) := goodIn_app (goodIn_of _ (by decide +kernel)) ggL_law_X7_setRoot
set_option maxRecDepth 20000 in
theorem ggL_law_X6_root : GoodIn wsL_law wsX6_root := goodIn_r _ [353, 114, 15, 341, 780, 781, 782, 783, 784, 785, 786, 787, 806, 807, 808, 809, 810, 811, 812, 813, 814, 815, 816, 817, 818, 819, 820] (by decide +kernel) (by decide +kernel)
set_option maxRecDepth 20000 in
theorem gL_law_X6_root : GoodIn wsL_law (wsV RL 57 RX6 yX6_root wsX6_root) := goodIn_app (goodIn_of _ (by decide +kernel)) ggL_law_X6_root
set_option maxRecDepth 20000 in
theorem ggL_law_X7_root : GoodIn wsL_law wsX7_root := goodIn_r _ [357, 96, 119, 120, 121, 5, 122, 788, 789, 790, 791, 792, 793, 794, 795, 796, 797, 798, 799, 800, 801, 802, 803, 804, 805] (by decide +kernel) (by decide +kernel)
set_option maxRecDepth 20000 in
theorem gL_law_X7_root : GoodIn wsL_law (wsV RL 60 RX7 yX7_root wsX7_root) := goodIn_app (goodIn_of _ (by decide +kernel)) ggL_law_X7_root
set_option maxRecDepth 20000 in
theorem ggL_law_X6_setWeak : GoodIn wsL_law wsX6_setWeak := goodIn_r _ [361, 15, 114, 362, 270, 271, 272, 14, 273, 274, 164, 165, 166, 42, 167, 168, 169, 170, 56, 275, 276, 2, 277, 780, 781, 782, 783, 784, 785, 786, 787, 806, 807, 808, 809, 810, 811, 812, 813, 814, 815, 816, 817, 818, 819, 820] (by decide +kernel) (by decide +kernel)
set_option maxRecDepth 20000 in
theorem gL_law_X6_setWeak : GoodIn wsL_law (wsV RL 61 RX6 yX6_setWeak wsX6_setWeak) := goodIn_app (goodIn_of _ (by decide +kernel)) ggL_law_X6_setWeak
set_option maxRecDepth 20000 in
theorem ggL_law_X7_setWeak : GoodIn wsL_law wsX7_setWeak := goodIn_r _ [366, 119, 120, 121, 5, 122, 282, 283, 284, 285, 225, 226, 227, 228, 96, 346, 347, 348, 349, 788, 789, 790, 791, 792, 793, 794, 795, 796, 797, 798, 799, 800, 801, 802, 803, 804, 805] (by decide +kernel) (by decide +kernel)
set_option maxRecDepth 20000 in
theorem gL_law_X7_setWeak : GoodIn wsL_law (wsV RL 64 RX7 yX7_setWeak wsX7_setWeak) := goodIn_app (goodIn_of _ (by decide +kernel)) ggL_law_X7_setWeak
set_option maxRecDepth 20000 in
theorem ggL_law_X6_weak : GoodIn wsL_law wsX6_weak := goodIn_r _ [370, 114, 15, 362, 780, 781, 782, 783, 784, 785, 786, 787, 806, 807, 808, 809, 810, 811, 812, 813, 814, 815, 816, 817, 818, 819, 820] (by decide +kernel) (by decide +kernel)
set_option maxRecDepth 20000 in
theorem gL_law_X6_weak : GoodIn wsL_law (wsV RL 65 RX6 yX6_weak wsX6_weak) := goodIn_app (goodIn_of _ (by decide +kernel)) ggL_law_X6_weak
set_option maxRecDepth 20000 in
theorem ggL_law_X7_weak : GoodIn wsL_law wsX7_weak := goodIn_r _ [374, 96, 119, 120, 121, 5, 122, 788, 789, 790, 791, 792, 793, 794, 795, 796, 797, 798, 799, 800, 801, 802, 803, 804, 805] (by decide +kernel) (by decide +kernel)
set_option maxRecDepth 20000 in
theorem gL_law_X7_weak : GoodIn wsL_law (wsV RL 68 RX7 yX7_weak wsX7_weak) := goodIn_app (goodIn_of _ (by decide +kernel)) ggL_law_X7_weak
set_option maxRecDepth 20000 in
theorem ggL_law_X6_collect : GoodIn wsL_law wsX6_collect := goodIn_r _ [378, 15, 20, 379, 380, 381, 382, 383, 14, 384, 56, 42, 385, 386, 387, 19, 388, 389, 390, 391, 392, 393, 394, 395, 396, 69, 397, 398, 399, 400, 164, 165, 166, 167, 168, 169, 170, 401, 402, 403, 404, 70, 405, 406, 407, 408, 409, 410, 411, 206, 207, 208, 45, 209, 187, 188, 189, 412, 413, 414, 415, 416, 417, 418, 419, 420, 421, 422, 62, 63, 64, 423, 424, 425, 426, 427, 147, 148, 149, 43, 44, 428, 429, 430, 431, 432, 433, 434, 435, 436, 437, 438, 439, 440, 441, 442, 443, 444, 445, 446, 46, 47, 447, 448, 449, 450, 146, 142, 143, 144, 145, 136, 137, 138, 139, 140, 141, 780, 781, 782, 783, 784, 785, 786, 787, 806, 807, 808, 809, 810, 811, 812, 813, 814, 815, 816, 817, 818, 819, 820, 821, 822, 823, 824, 825, 826] (by decide +kernel) (by decide +kernel)
set_option maxRecDepth 20000 in
theorem gL_law_X6_collect : GoodIn wsL_law (wsV RL 69 RX6 yX6_collect wsX6_collect) := goodIn_app (goodIn_of _ (by decide +kernel)) ggL_law_X6_collect
set_option maxRecDepth 20000 in
theorem ggL_law_X7_collect : GoodIn wsL_law wsX7_collect := goodIn_r _ [454, 97, 96, 103, 455, 456, 457, 458, 5, 459, 460, 461, 462, 463, 464, 465, 466, 467, 468, 469, 104, 225, 226, 227, 228, 120, 121, 122, 470, 471, 472, 473, 474, 475, 476, 477, 478, 479, 480, 481, 482, 483, 484, 485, 788, 789, 790, 791, 792, 793, 794, 795, 796, 797, 798, 799, 800, 801, 802, 803, 804, 805] (by decide +kernel) (by decide +kernel)
set_option maxRecDepth 20000 in
theorem gL_law_X7_collect : GoodIn wsL_law (wsV RL 73 RX7 yX7_collect wsX7_collect) := goodIn_app (goodIn_of _ (by decide +kernel)) ggL_law_X7_collect
