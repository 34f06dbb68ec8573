set_option maxRecDepth 20000 in
theorem ggL_law_X7_init : GoodIn wsL_law wsX7_init := goodIn_r _ [9, 10, 11, 12, 13, 14, 15, 16, 17, 18, 19, 20, 21, 22, 23, 24, 25, 26, 27, 28, 29, 30, 31, 32, 33, 34, 35, 36, 37, 38, 39, 40, 41, 42, 43, 44, 45, 46, 47, 48, 49, 50, 51, 52, 53, 54, 55, 56, 57, 58, 59, 60, 61, 62, 63, 64, 65, 66, 67, 68, 6, 69, 70, 71, 72, 73, 74, 75, 76, 77, 78, 79, 80, 81, 82, 83, 84, 85, 86, 87, 88, 89, 90, 91, 92, 93, 94, 95, 96, 819, 820, 779, 780, 781, 782, 783, 784, 785, 786, 787, 821, 822, 823, 824, 825, 826, 827, 828, 829, 830, 831, 832, 833, 834, 835, 836, 837, 838, 839, 840, 841, 842, 843, 844, 845, 846, 847, 848, 849, 850, 851, 852, 853, 854, 855, 856, 857] (by decide +kernel) (by decide +kernel)
set_option maxRecDepth 20000 in
theorem gL_law_X7_init : GoodIn wsL_law (wsX7_init) := ggL_law_X7_init
set_option maxRecDepth 20000 in
theorem ggL_law_X8_init : GoodIn wsL_law wsX8_init := goodIn_r _ [99, 100, 11, 12, 56, 101, 6, 102, 70, 103, 46, 104, 105, 106, 107, 108, 109, 110, 111, 112, 113, 114, 115, 116, 117, 118, 119, 120, 788, 789, 790, 791, 792, 793, 794, 795, 796, 797, 798, 799, 800, 801, 802, 803, 804, 805, 806, 807, 808, 809, 810, 811, 812, 813, 814, 815, 816, 817, 818] (by decide +kernel) (by decide +kernel)
set_option maxRecDepth 20000 in
theorem gL_law_X8_init : GoodIn wsL_law (wsX8_init) := ggL_law_X8_init
set_option maxRecDepth 20000 in
theorem ggL_law_L_chief : GoodIn wsL_law wsL_chief := goodIn_ca (goodIn_ca (goodIn_r _ [124, 125, 126, 127, 128, 129, 2, 130, 131, 132, 133, 134, 135, 28, 136, 137, 138, 139, 27, 140, 68, 72, 71, 779, 780, 781, 782, 783, 784, 785, 786, 787, 840, 841, 842, 843] (by decide +kernel) (by decide +kernel)) (goodIn_sub (fun _ h => List.mem_append_left _ (List.mem_append_left _ (List.mem_append_right _ h))) (by decide +kernel))) (goodIn_sub (fun _ h => List.mem_append_left _ (List.mem_append_right _ h)) (by decide +kernel))
set_option maxRecDepth 20000 in
theorem gL_law_L_chief : GoodIn wsL_law (va_wsS RL 73 yL_chief wsL_chief) := goodIn_app (goodIn_of _ (by decide +kernel)) ggL_law_L_chief
set_option maxRecDepth 20000 in
theorem ggL_law_X8_chief : GoodIn wsL_law wsX8_chief := goodIn_r _ [144, 145, 146, 147, 101, 148, 149, 150, 5, 151, 788, 789, 790, 791, 792, 793, 794, 795, 796, 797, 798, 799, 800, 801, 802, 803, 804, 805, 806, 807, 808, 809, 810, 811, 812, 813, 814, 815, 816, 817, 818] (by decide +kernel) (by decide +kernel)
set_option maxRecDepth 20000 in
theorem gL_law_X8_chief : GoodIn wsL_law (wsV RL 78 RX8 yX8_chief wsX8_chief) := goodIn_app (goodIn_of _ (by decide +kernel)) ggL_law_X8_chief
set_option maxRecDepth 20000 in
theorem ggL_law_X8_thrown : GoodIn wsL_law wsX8_thrown := goodIn_r _ [155, 145, 788, 789, 790, 791, 792, 793, 794, 795, 796, 797, 798, 799, 800, 801, 802, 803, 804, 805, 806, 807, 808, 809, 810, 811, 812, 813, 814, 815, 816, 817, 818] (by decide +kernel) (by decide +kernel)
set_option maxRecDepth 20000 in
theorem gL_law_X8_thrown : GoodIn wsL_law (wsV RL 79 RX8 yX8_thrown wsX8_thrown) := goodIn_app (goodIn_of _ (by decide +kernel)) ggL_law_X8_thrown
set_option maxRecDepth 20000 in
theorem ggL_law_X7_feed : GoodIn wsL_law wsX7_feed := goodIn_r _ [159, 16, 160, 161, 162, 163, 15, 164, 47, 48, 779, 780, 781, 782, 783, 784, 785, 786, 787, 819, 820] (by decide +kernel) (by decide +kernel)
set_option maxRecDepth 20000 in
theorem gL_law_X7_feed : GoodIn wsL_law (wsV RL 83 RX7 yX7_feed wsX7_feed) := goodIn_app (goodIn_of _ (by decide +kernel)) ggL_law_X7_feed
set_option maxRecDepth 20000 in
theorem ggL_law_X8_feed : GoodIn wsL_law wsX8_feed := goodIn_r _ [168, 145, 169, 104, 788, 789, 790, 791, 792, 793, 794, 795, 796, 797, 798, 799, 800, 801, 802, 803, 804, 805, 806, 807, 808, 809, 810, 811, 812, 813, 814, 815, 816, 817, 818] (by decide +kernel) (by decide +kernel)
set_option maxRecDepth 20000 in
theorem gL_law_X8_feed : GoodIn wsL_law (wsV RL 87 RX8 yX8_feed wsX8_feed) := goodIn_app (goodIn_of _ (by decide +kernel)) ggL_law_X8_feed
set_option maxRecDepth 20000 in
theorem ggL_law_L_custom : GoodIn wsL_law wsL_custom := goodIn_ca (goodIn_ca (goodIn_r _ [172, 125, 126, 173, 174, 175, 2, 176, 131, 132, 133, 134, 16, 160, 24, 177, 20, 178, 179, 42, 180, 181, 182, 183, 19, 184, 52, 185, 186, 187, 188, 189, 190, 191, 192, 193, 194, 195, 196, 197, 198, 199, 200, 201, 202, 203, 204, 205, 206, 207, 208, 209, 210, 211, 212, 213, 214, 215, 216, 217, 218, 219, 220, 221, 222, 223, 224, 225, 226, 227, 228, 229, 230, 231, 232, 233, 234, 235, 236, 237, 238, 239, 240, 241, 242, 243, 244, 245, 246, 247, 248, 249, 250, 251, 252, 253, 254, 255, 256, 257, 258, 259, 260, 261, 262, 263, 264, 265, 266, 267, 268, 269, 270, 271, 272, 273, 274, 275, 276, 277, 278, 279, 280, 281, 282, 283, 284, 285, 286, 287, 288, 289, 290, 291, 292, 293, 294, 23, 295, 57, 64, 58, 296, 59, 297, 60, 298, 61, 299, 62, 300, 63, 301, 779, 780, 781, 782, 783, 784, 785, 786, 787, 819, 820, 832, 833, 834, 835, 836, 837, 838, 839, 821, 822, 823, 824, 825, 826, 827, 828, 829, 830, 831] (by decide +kernel) (by decide +kernel)) (goodIn_sub (fun _ h => List.mem_append_left _ (List.mem_append_left _ (List.mem_append_right _ h))) (by decide +kernel))) (goodIn_sub (fun _ h => List.mem_append_left _ (List.mem_append_right _ h)) (by decide +kernel))
set_option maxRecDepth 20000 in
theorem gL_law_L_custom : GoodIn wsL_law (va_wsS RL 88 yL_custom wsL_custom) := goodIn_app (goodIn_of _ (by decide +kernel)) ggL_law_L_custom
set_option maxRecDepth 20000 in
theorem ggL_law_X8_custom : GoodIn wsL_law wsX8_custom := goodIn_r _ [305, 145, 169, 306, 307, 308, 309, 105, 107, 106, 148, 149, 150, 5, 151, 310, 311, 312, 313, 314, 315, 316, 317, 104, 318, 319, 320, 321, 322, 213, 214, 215, 216, 217, 218, 219, 220, 221, 222, 223, 323, 225, 226, 227, 228, 229, 230, 231, 232, 233, 234, 235, 236, 237, 238, 239, 240, 241, 242, 243, 244, 245, 246, 247, 248, 249, 250, 251, 252, 253, 254, 255, 256, 257, 258, 259, 260, 324, 325, 326, 327, 328, 329, 330, 331, 332, 333, 334, 335, 336, 337, 338, 339, 340, 341, 342, 343, 344, 345, 346, 347, 348, 349, 788, 789, 790, 791, 792, 793, 794, 795, 796, 797, 798, 799, 800, 801, 802, 803, 804, 805, 806, 807, 808, 809, 810, 811, 812, 813, 814, 815, 816, 817, 818] (by decide +kernel) (by decide +kernel)
set_option maxRecDepth 20000 in
theorem gL_law_X8_custom : GoodIn wsL_law (wsV RL 91 RX8 yX8_custom wsX8_custom) := goodIn_app (goodIn_of _ (by decide +kernel)) ggL_law_X8_custom
set_option maxRecDepth 20000 in
theorem ggL_law_X7_fault : GoodIn wsL_law wsX7_fault := goodIn_r _ [353, 42, 779, 780, 781, 782, 783, 784, 785, 786, 787] (by decide +kernel) (by decide +kernel)
set_option maxRecDepth 20000 in
theorem gL_law_X7_fault : GoodIn wsL_law (wsV RL 92 RX7 yX7_fault wsX7_fault) := goodIn_app (goodIn_of _ (by decide +kernel)) ggL_law_X7_fault
set_option maxRecDepth 20000 in
theorem ggL_law_X8_fault : GoodIn wsL_law wsX8_fault := goodIn_r _ [357, 145, 105, 788, 789, 790, 791, 792, 793, 794, 795, 796, 797, 798, 799, 800, 801, 802, 803, 804, 805, 806, 807, 808, 809, 810, 811, 812, 813, 814, 815, 816, 817, 818] (by decide +kernel) (by decide +kernel)
set_option maxRecDepth 20000 in
theorem gL_law_X8_fault : GoodIn wsL_law (wsV RL 95 RX8 yX8_fault wsX8_fault) := goodIn_app (goodIn_of _ (by decide +kernel)) ggL_law_X8_fault
set_option maxRecDepth 20000 in
theorem ggL_law_X7_force : GoodIn wsL_law wsX7_force := goodIn_r _ [361, 24, 362, 363, 364, 23, 365, 64, 57, 779, 780, 781, 782, 783, 784, 785, 786, 787, 832, 833, 834, 835, 836, 837, 838, 839] (by decide +kernel) (by decide +kernel)
set_option maxRecDepth 20000 in
theorem gL_law_X7_force : GoodIn wsL_law (wsV RL 96 RX7 yX7_force wsX7_force) := goodIn_app (goodIn_of _ (by decide +kernel)) ggL_law_X7_force
set_option maxRecDepth 20000 in
theorem ggL_law_X8_force : GoodIn wsL_law wsX8_force := goodIn_r _ [369, 145, 370, 371, 372, 5, 373, 306, 106, 788, 789, 790, 791, 792, 793, 794, 795, 796, 797, 798, 799, 800, 801, 802, 803, 804, 805, 806, 807, 808, 809, 810, 811, 812, 813, 814, 815, 816, 817, 818] (by decide +kernel) (by decide +kernel)
set_option maxRecDepth 20000 in
theorem gL_law_X8_force : GoodIn wsL_law (wsV RL 99 RX8 yX8_force wsX8_force) := goodIn_app (goodIn_of _ (by decide +kernel)) ggL_law_X8_force
set_option maxRecDepth 20000 in
theorem ggL_law_L_give : GoodIn wsL_law wsL_give := goodIn_ca (goodIn_ca (goodIn_ca (goodIn_r _ [376, 377, 125, 126, 378, 379, 380, 2, 381, 28, 382, 32, 383, 384, 385, 386, 131, 132, 387, 388, 389, 390, 391, 392, 136, 393, 394, 395, 396, 133, 134, 397, 398, 399, 400, 401, 402, 403, 277, 404, 24, 41, 405, 406, 407, 31, 408, 80, 78, 409, 410, 411, 412, 76, 77, 362, 363, 364, 23, 365, 64, 57, 413, 414, 415, 416, 59, 58, 417, 418, 419, 420, 421, 422, 423, 424, 425, 27, 426, 68, 427, 428, 429, 430, 431, 432, 433, 434, 435, 436, 276, 278, 437, 438, 439, 440, 441, 442, 443, 444, 445, 79, 446, 447, 448, 449, 450, 451, 452, 453, 60, 454, 455, 456, 457, 779, 780, 781, 782, 783, 784, 785, 786, 787, 840, 841, 842, 843, 844, 845, 846, 847, 848, 832, 833, 834, 835, 836, 837, 838, 839] (by decide +kernel) (by decide +kernel)) (goodIn_sub (fun _ h => List.mem_append_left _ (List.mem_append_left _ (List.mem_append_right _ h))) (by decide +kernel))) (goodIn_sub (fun _ h => List.mem_append_right _ h) (by decide +kernel))) (goodIn_sub (fun _ h => List.mem_append_left _ (List.mem_append_right _ h)) (by decide +kernel))
set_option maxRecDepth 20000 in
theorem gL_law_L_give : GoodIn wsL_law (va_wsS RL 100 yL_give wsL_give) := goodIn_app (goodIn_of _ (by decide +kernel)) ggL_law_L_give
set_option maxRecDepth 20000 in
theorem ggL_law_X8_give : GoodIn wsL_law wsX8_give := goodIn_r _ [461, 145, 101, 462, 463, 464, 465, 5, 466, 103, 467, 468, 469, 470, 147, 148, 149, 150, 151, 471, 472, 473, 474, 475, 476, 477, 478, 479, 108, 109, 110, 480, 481, 482, 483, 484, 107, 370, 371, 372, 373, 306, 106, 485, 486, 487, 488, 102, 489, 490, 491, 492, 111, 112, 493, 494, 495, 496, 788, 789, 790, 791, 792, 793, 794, 795, 796, 797, 798, 799, 800, 801, 802, 803, 804, 805, 806, 807, 808, 809, 810, 811, 812, 813, 814, 815, 816, 817, 818] (by decide +kernel) (by decide +kernel)
set_option maxRecDepth 20000 in
theorem gL_law_X8_give : GoodIn wsL_law (wsV RL 103 RX8 yX8_give wsX8_give) := goodIn_app (goodIn_of _ (by decide +kernel)) ggL_law_X8_give
