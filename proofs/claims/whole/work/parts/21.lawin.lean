set_option maxRecDepth 20000 in
theorem li_r1 : ∀ w ∈ wsL_law0_r1, w ∈ lw_tbl := fun w h => (goodIn_r wsL_law0_r1 [69, 70, 47, 835, 836, 55, 198, 71, 72, 73, 74, 75, 76, 77, 78, 48, 278, 93, 94, 49, 279, 141, 142, 50] (by decide +kernel) (by decide +kernel) w h).1
set_option maxRecDepth 20000 in
theorem li_r2 : ∀ w ∈ wsL_law0_r2, w ∈ lw_tbl := fun w h => (goodIn_r wsL_law0_r2 [280, 174, 175, 51, 281, 200, 201, 52, 282, 232, 233, 53, 283, 254, 255, 54, 284, 285, 286, 80, 81, 82, 92, 83] (by decide +kernel) (by decide +kernel) w h).1
set_option maxRecDepth 20000 in
theorem li_r3 : ∀ w ∈ wsL_law0_r3, w ∈ lw_tbl := fun w h => (goodIn_r wsL_law0_r3 [85, 96, 97, 98, 99, 144, 145, 146, 173, 147, 148, 149, 150, 151, 152, 153, 154, 177, 178, 179, 180, 183, 199, 185] (by decide +kernel) (by decide +kernel) w h).1
set_option maxRecDepth 20000 in
theorem li_r4 : ∀ w ∈ wsL_law0_r4, w ∈ lw_tbl := fun w h => (goodIn_r wsL_law0_r4 [187, 203, 204, 205, 206, 209, 212, 215, 218, 235, 236, 237, 238, 240, 241, 243, 257, 258, 259, 262, 260, 263, 264, 265] (by decide +kernel) (by decide +kernel) w h).1
set_option maxRecDepth 20000 in
theorem li_r5 : ∀ w ∈ wsL_law0_r5, w ∈ lw_tbl := fun w h => (goodIn_r wsL_law0_r5 [266, 837, 838, 839, 840, 842, 843, 844, 847, 852, 853, 854, 856, 857, 858, 859, 860, 862, 863, 864, 866, 867, 868, 869] (by decide +kernel) (by decide +kernel) w h).1
set_option maxRecDepth 20000 in
theorem li_r6 : ∀ w ∈ wsL_law0_r6, w ∈ lw_tbl := fun w h => (goodIn_r wsL_law0_r6 [870, 346, 347, 46, 348, 349, 350, 351, 352, 353, 354, 356, 59, 423, 60, 355, 188, 439, 440, 441, 442, 939, 940, 941] (by decide +kernel) (by decide +kernel) w h).1
set_option maxRecDepth 20000 in
theorem li_r7 : ∀ w ∈ wsL_law0_r7, w ∈ lw_tbl := fun w h => (goodIn_r wsL_law0_r7 [942, 841, 943, 845, 944, 946, 25, 947, 935, 936, 937, 938, 306, 307, 308, 309, 86, 310, 311, 312, 313, 948, 949, 950] (by decide +kernel) (by decide +kernel) w h).1
set_option maxRecDepth 20000 in
theorem li_r8 : ∀ w ∈ wsL_law0_r8, w ∈ lw_tbl := fun w h => (goodIn_r wsL_law0_r8 [951, 848, 443, 444, 445, 446, 447, 448, 449, 155, 84, 105, 103, 452, 453, 454, 455, 456, 458, 457, 61, 100, 101, 102] (by decide +kernel) (by decide +kernel) w h).1
set_option maxRecDepth 20000 in
theorem li_r9 : ∀ w ∈ wsL_law0_r9, w ∈ lw_tbl := fun w h => (goodIn_r wsL_law0_r9 [104, 109, 114, 116, 459, 461, 1, 462, 463, 465, 2, 466, 467, 469, 3, 470, 472, 474, 4, 475, 476, 477, 478, 62] (by decide +kernel) (by decide +kernel) w h).1
set_option maxRecDepth 20000 in
theorem li_r10 : ∀ w ∈ wsL_law0_r10, w ∈ lw_tbl := fun w h => (goodIn_r wsL_law0_r10 [479, 1127, 480, 481, 482, 483, 484, 1128, 486, 487, 488, 489, 490, 491, 492, 493, 494, 495, 63, 496, 497, 498, 499, 500] (by decide +kernel) (by decide +kernel) w h).1
set_option maxRecDepth 20000 in
theorem li_r11 : ∀ w ∈ wsL_law0_r11, w ∈ lw_tbl := fun w h => (goodIn_r wsL_law0_r11 [502, 503, 64, 504, 505, 506, 65, 507, 508, 509, 510, 511, 512, 513, 514, 515, 516, 517, 518, 520, 522, 526, 528, 5] (by decide +kernel) (by decide +kernel) w h).1
set_option maxRecDepth 20000 in
theorem li_r12 : ∀ w ∈ wsL_law0_r12, w ∈ lw_tbl := fun w h => (goodIn_r wsL_law0_r12 [529, 530, 532, 6, 533, 107, 111, 534, 536, 7, 537, 538, 539, 66, 540, 541, 543, 8, 544, 545, 547, 9, 548, 550] (by decide +kernel) (by decide +kernel) w h).1
set_option maxRecDepth 20000 in
theorem li_r13 : ∀ w ∈ wsL_law0_r13, w ∈ lw_tbl := fun w h => (goodIn_r wsL_law0_r13 [552, 10, 553, 113, 554, 555, 556, 557, 106, 108, 110, 112, 115, 117, 952, 953, 954, 955, 855, 849, 850, 851, 956, 958] (by decide +kernel) (by decide +kernel) w h).1
set_option maxRecDepth 20000 in
theorem li_r14 : ∀ w ∈ wsL_law0_r14, w ∈ lw_tbl := fun w h => (goodIn_r wsL_law0_r14 [26, 959, 960, 962, 27, 963, 965, 967, 28, 968, 969, 970, 971, 972, 973, 976, 978, 29, 979, 980, 982, 30, 983, 984] (by decide +kernel) (by decide +kernel) w h).1
set_option maxRecDepth 20000 in
theorem li_r15 : ∀ w ∈ wsL_law0_r15, w ∈ lw_tbl := fun w h => (goodIn_r wsL_law0_r15 [986, 31, 987, 988, 990, 32, 991, 992, 993, 994, 995, 997, 33, 998, 314, 315, 316, 317, 1000, 1001, 1002, 1003, 318, 319] (by decide +kernel) (by decide +kernel) w h).1
set_option maxRecDepth 20000 in
theorem li_r16 : ∀ w ∈ wsL_law0_r16, w ∈ lw_tbl := fun w h => (goodIn_r wsL_law0_r16 [320, 321, 322, 323, 324, 325, 1004, 1005, 1006, 1007, 1008, 1010, 34, 1011, 558, 559, 560, 561, 562, 563, 564, 565, 182, 566] (by decide +kernel) (by decide +kernel) w h).1
set_option maxRecDepth 20000 in
theorem li_r17 : ∀ w ∈ wsL_law0_r17, w ∈ lw_tbl := fun w h => (goodIn_r wsL_law0_r17 [568, 11, 569, 570, 572, 12, 573, 574, 67, 591, 593, 13, 594, 186, 596, 598, 14, 599, 608, 609, 610, 600, 601, 602] (by decide +kernel) (by decide +kernel) w h).1
set_option maxRecDepth 20000 in
theorem li_r18 : ∀ w ∈ wsL_law0_r18, w ∈ lw_tbl := fun w h => (goodIn_r wsL_law0_r18 [603, 604, 606, 15, 607, 611, 612, 613, 614, 615, 616, 617, 618, 619, 620, 621, 622, 623, 624, 625, 627, 16, 628, 184] (by decide +kernel) (by decide +kernel) w h).1
set_option maxRecDepth 20000 in
theorem li_r19 : ∀ w ∈ wsL_law0_r19, w ∈ lw_tbl := fun w h => (goodIn_r wsL_law0_r19 [629, 630, 631, 632, 642, 633, 635, 17, 636, 637, 639, 18, 640, 641, 334, 335, 336, 337, 643, 644, 645, 646, 647, 648] (by decide +kernel) (by decide +kernel) w h).1
set_option maxRecDepth 20000 in
theorem li_r20 : ∀ w ∈ wsL_law0_r20, w ∈ lw_tbl := fun w h => (goodIn_r wsL_law0_r20 [649, 650, 1012, 1013, 1014, 1015, 861, 1016, 1018, 35, 1019, 1020, 1022, 36, 1023, 1024, 1026, 37, 1027, 1036, 1028, 1030, 38, 1031] (by decide +kernel) (by decide +kernel) w h).1
set_option maxRecDepth 20000 in
theorem li_r21 : ∀ w ∈ wsL_law0_r21, w ∈ lw_tbl := fun w h => (goodIn_r wsL_law0_r21 [1032, 1034, 39, 1035, 846, 1037, 1039, 40, 1040, 1041, 1043, 41, 1044, 1045, 1047, 42, 1048, 651, 652, 653, 654, 655, 656, 657] (by decide +kernel) (by decide +kernel) w h).1
set_option maxRecDepth 20000 in
theorem li_r22 : ∀ w ∈ wsL_law0_r22, w ∈ lw_tbl := fun w h => (goodIn_r wsL_law0_r22 [1049, 1050, 1051, 1052, 658, 659, 660, 661, 662, 663, 664, 244, 667, 668, 669, 670, 1053, 1054, 1055, 1056, 865, 671, 672, 673] (by decide +kernel) (by decide +kernel) w h).1
set_option maxRecDepth 20000 in
theorem li_r23 : ∀ w ∈ wsL_law0_r23, w ∈ lw_tbl := fun w h => (goodIn_r wsL_law0_r23 [674, 675, 676, 677, 239, 242, 678, 680, 19, 681, 1057, 1058, 1059, 1060, 1061, 1063, 43, 1064, 684, 685, 686, 687, 688, 689] (by decide +kernel) (by decide +kernel) w h).1
set_option maxRecDepth 20000 in
theorem li_r24 : ∀ w ∈ wsL_law0_r24, w ∈ lw_tbl := fun w h => (goodIn_r wsL_law0_r24 [690, 691, 692, 693, 694, 695, 696, 697, 1065, 1066, 1067, 1068, 698, 699, 700, 701, 702, 703, 704, 1069, 1070, 1071, 1072, 706] (by decide +kernel) (by decide +kernel) w h).1
set_option maxRecDepth 20000 in
theorem li_r25 : ∀ w ∈ wsL_law0_r25, w ∈ lw_tbl := fun w h => (goodIn_r wsL_law0_r25 [707, 708, 709, 710, 711, 712, 713, 715, 20, 716, 721, 717, 718, 719, 723, 724, 725, 726, 727, 728, 68, 729, 730, 731] (by decide +kernel) (by decide +kernel) w h).1
set_option maxRecDepth 20000 in
theorem li_r26 : ∀ w ∈ wsL_law0_r26, w ∈ lw_tbl := fun w h => (goodIn_r wsL_law0_r26 [732, 733, 735, 21, 736, 1073, 1074, 1075, 1076, 1080, 1077, 1078, 1079, 737, 738, 739, 740, 741, 742, 743, 745, 746, 747, 748] (by decide +kernel) (by decide +kernel) w h).1
set_option maxRecDepth 20000 in
theorem li_r27 : ∀ w ∈ wsL_law0_r27, w ∈ lw_tbl := fun w h => (goodIn_r wsL_law0_r27 [749, 750, 751, 752, 1081, 1082, 1083, 1084, 753, 754, 755, 756, 757, 758, 759, 761, 763, 22, 764, 220, 214, 765, 766, 767] (by decide +kernel) (by decide +kernel) w h).1
set_option maxRecDepth 20000 in
theorem li_r28 : ∀ w ∈ wsL_law0_r28, w ∈ lw_tbl := fun w h => (goodIn_r wsL_law0_r28 [768, 769, 1085, 1086, 1087, 1088, 770, 771, 772, 773, 774, 775, 776, 208, 211, 217, 1089, 1090, 1091, 1092, 326, 327, 328, 329] (by decide +kernel) (by decide +kernel) w h).1
set_option maxRecDepth 20000 in
theorem li_r29 : ∀ w ∈ wsL_law0_r29, w ∈ lw_tbl := fun w h => (goodIn_r wsL_law0_r29 [330, 331, 332, 333, 1093, 1094, 1095, 1096, 779, 780, 781, 782, 783, 784, 785, 786, 787, 788, 789, 1097, 1098, 1099, 1100, 791] (by decide +kernel) (by decide +kernel) w h).1
set_option maxRecDepth 20000 in
theorem li_r30 : ∀ w ∈ wsL_law0_r30, w ∈ lw_tbl := fun w h => (goodIn_r wsL_law0_r30 [792, 793, 794, 795, 796, 797, 1101, 1102, 1103, 1104, 798, 799, 800, 801, 802, 803, 804, 805, 806, 807, 808, 809, 181, 219] (by decide +kernel) (by decide +kernel) w h).1
set_option maxRecDepth 20000 in
theorem li_r31 : ∀ w ∈ wsL_law0_r31, w ∈ lw_tbl := fun w h => (goodIn_r wsL_law0_r31 [216, 207, 210, 213, 810, 811, 812, 813, 814, 815, 817, 23, 818, 819, 821, 24, 822, 823, 1105, 1106, 1107, 1108, 1109, 1110] (by decide +kernel) (by decide +kernel) w h).1
set_option maxRecDepth 20000 in
theorem li_r32 : ∀ w ∈ wsL_law0_r32, w ∈ lw_tbl := fun w h => (goodIn_r wsL_law0_r32 [1112, 44, 1113, 871, 1114, 1116, 45, 1117, 824, 825, 826, 827, 828, 829, 830, 831, 832, 833, 834, 1118, 1119, 1120, 1121, 338] (by decide +kernel) (by decide +kernel) w h).1
set_option maxRecDepth 20000 in
theorem li_r33 : ∀ w ∈ wsL_law0_r33, w ∈ lw_tbl := fun w h => (goodIn_r wsL_law0_r33 [339, 340, 341, 342, 343, 344, 345, 1122, 1123, 1124, 1125] (by decide +kernel) (by decide +kernel) w h).1
set_option maxRecDepth 20000 in
theorem li_X7 : ∀ w ∈ wsX70, w ∈ lw_tbl := fun w h => (goodIn_r wsX70 [287, 289, 291, 293, 295, 297, 299, 301, 303] (by decide +kernel) (by decide +kernel) w h).1
set_option maxRecDepth 20000 in
theorem li_X8 : ∀ w ∈ wsX80, w ∈ lw_tbl := fun w h => (goodIn_r wsX80 [872, 874, 876, 878, 880, 882, 884, 886, 888, 890, 892, 894, 896, 898, 900, 902, 904, 906, 908, 910, 912, 914, 916, 918, 920, 922, 924, 926, 928, 930, 932] (by decide +kernel) (by decide +kernel) w h).1
set_option maxRecDepth 20000 in
theorem li_X5 : ∀ w ∈ wsX50, w ∈ lw_tbl := fun w h => (goodIn_r wsX50 [87, 89] (by decide +kernel) (by decide +kernel) w h).1
set_option maxRecDepth 20000 in
theorem li_X6 : ∀ w ∈ wsX60, w ∈ lw_tbl := fun w h => (goodIn_r wsX60 [118, 120, 122, 124, 126, 128, 130, 132, 134, 136, 138] (by decide +kernel) (by decide +kernel) w h).1
set_option maxRecDepth 20000 in
theorem li_X2 : ∀ w ∈ wsX20, w ∈ lw_tbl := fun w h => (goodIn_r wsX20 [156, 158, 160, 162, 164, 166, 168, 170] (by decide +kernel) (by decide +kernel) w h).1
set_option maxRecDepth 20000 in
theorem li_X0 : ∀ w ∈ wsX00, w ∈ lw_tbl := fun w h => (goodIn_r wsX00 [189, 191, 193, 195] (by decide +kernel) (by decide +kernel) w h).1
set_option maxRecDepth 20000 in
theorem li_X3 : ∀ w ∈ wsX30, w ∈ lw_tbl := fun w h => (goodIn_r wsX30 [221, 223, 225, 227, 229] (by decide +kernel) (by decide +kernel) w h).1
set_option maxRecDepth 20000 in
theorem li_X1 : ∀ w ∈ wsX10, w ∈ lw_tbl := fun w h => (goodIn_r wsX10 [245, 247, 249, 251] (by decide +kernel) (by decide +kernel) w h).1
set_option maxRecDepth 20000 in
theorem li_X4 : ∀ w ∈ wsX40, w ∈ lw_tbl := fun w h => (goodIn_r wsX40 [267, 269, 271, 273, 275] (by decide +kernel) (by decide +kernel) w h).1
theorem wsL_law_in0 : ∀ w ∈ wsL_law0, w ∈ lw_tbl := by
  show ∀ w ∈ (wsL_law0_r1 ++ (wsL_law0_r2 ++ (wsL_law0_r3 ++ (wsL_law0_r4 ++ (wsL_law0_r5 ++ (wsL_law0_r6 ++ (wsL_law0_r7 ++ (wsL_law0_r8 ++ (wsL_law0_r9 ++ (wsL_law0_r10 ++ (wsL_law0_r11 ++ (wsL_law0_r12 ++ (wsL_law0_r13 ++ (wsL_law0_r14 ++ (wsL_law0_r15 ++ (wsL_law0_r16 ++ (wsL_law0_r17 ++ (wsL_law0_r18 ++ (wsL_law0_r19 ++ (wsL_law0_r20 ++ (wsL_law0_r21 ++ (wsL_law0_r22 ++ (wsL_law0_r23 ++ (wsL_law0_r24 ++ (wsL_law0_r25 ++ (wsL_law0_r26 ++ (wsL_law0_r27 ++ (wsL_law0_r28 ++ (wsL_law0_r29 ++ (wsL_law0_r30 ++ (wsL_law0_r31 ++ (wsL_law0_r32 ++ wsL_law0_r33)))))))))))))))))))))))))))))))) ++ wsX70 ++ wsX80 ++ wsX50 ++ wsX60 ++ wsX20 ++ wsX00 ++ wsX30 ++ wsX10 ++ wsX40 ++ ([] : List Cond), w ∈ lw_tbl
  exact List.forall_mem_append.mpr ⟨List.forall_mem_append.mpr ⟨List.forall_mem_append.mpr ⟨List.forall_mem_append.mpr ⟨List.forall_mem_append.mpr ⟨List.forall_mem_append.mpr ⟨List.forall_mem_append.mpr ⟨List.forall_mem_append.mpr ⟨List.forall_mem_append.mpr ⟨List.forall_mem_append.mpr ⟨List.forall_mem_append.mpr ⟨li_r1, List.forall_mem_append.mpr ⟨li_r2, List.forall_mem_append.mpr ⟨li_r3, List.forall_mem_append.mpr ⟨li_r4, List.forall_mem_append.mpr ⟨li_r5, List.forall_mem_append.mpr ⟨li_r6, List.forall_mem_append.mpr ⟨li_r7, List.forall_mem_append.mpr ⟨li_r8, List.forall_mem_append.mpr ⟨li_r9, List.forall_mem_append.mpr ⟨li_r10, List.forall_mem_append.mpr ⟨li_r11, List.forall_mem_append.mpr ⟨li_r12, List.forall_mem_append.mpr ⟨li_r13, List.forall_mem_append.mpr ⟨li_r14, List.forall_mem_append.mpr ⟨li_r15, List.forall_mem_append.mpr ⟨li_r16, List.forall_mem_append.mpr ⟨li_r17, List.forall_mem_append.mpr ⟨li_r18, List.forall_mem_append.mpr ⟨li_r19, List.forall_mem_append.mpr ⟨li_r20, List.forall_mem_append.mpr ⟨li_r21, List.forall_mem_append.mpr ⟨li_r22, List.forall_mem_append.mpr ⟨li_r23, List.forall_mem_append.mpr ⟨li_r24, List.forall_mem_append.mpr ⟨li_r25, List.forall_mem_append.mpr ⟨li_r26, List.forall_mem_append.mpr ⟨li_r27, List.forall_mem_append.mpr ⟨li_r28, List.forall_mem_append.mpr ⟨li_r29, List.forall_mem_append.mpr ⟨li_r30, List.forall_mem_append.mpr ⟨li_r31, List.forall_mem_append.mpr ⟨li_r32, li_r33⟩⟩⟩⟩⟩⟩⟩⟩⟩⟩⟩⟩⟩⟩⟩⟩⟩⟩⟩⟩⟩⟩⟩⟩⟩⟩⟩⟩⟩⟩⟩⟩, li_X7⟩, li_X8⟩, li_X5⟩, li_X6⟩, li_X2⟩, li_X0⟩, li_X3⟩, li_X1⟩, li_X4⟩, fun _ h => absurd h List.not_mem_nil⟩
theorem wsL_law_x0 : ∀ w ∈ (vx_atS RX7 70 "java/lang/IllegalArgumentException" ["java/lang/RuntimeException", "java/lang/Exception"]).filter goodWord, w ∈ lw_tbl := by decide +kernel
theorem wsL_law_x1 : ∀ w ∈ (vx_atS RX7 80 "java/lang/IllegalStateException" ["java/lang/RuntimeException", "java/lang/Exception"]).filter goodWord, w ∈ lw_tbl := by decide +kernel
theorem wsL_law_x2 : ∀ w ∈ (vx_atS RX7 211 "java/lang/IndexOutOfBoundsException" ["java/lang/RuntimeException", "java/lang/Exception"]).filter goodWord, w ∈ lw_tbl := by decide +kernel
theorem wsL_law_in : ∀ w ∈ wsL_law, w ∈ lw_tbl := fun w h => (List.mem_append.mp h).elim (fun h => (List.mem_append.mp h).elim (fun h => (List.mem_append.mp h).elim (fun h => wsL_law_in0 w h) (fun h => wsL_law_x0 w h)) (fun h => wsL_law_x1 w h)) (fun h => wsL_law_x2 w h)
theorem inlX0 : ∀ w ∈ wsX00, w ∈ wsL_law := fun _ h => List.mem_append_left _ (List.mem_append_left _ (List.mem_append_left _ (List.mem_append_left _ (List.mem_append_left _ (List.mem_append_left _ (List.mem_append_left _ (List.mem_append_right _ h)))))))
theorem inX0 : ∀ w ∈ wsX00, w ∈ lw_tbl := fun w h => wsL_law_in w (inlX0 w h)
theorem inlX1 : ∀ w ∈ wsX10, w ∈ wsL_law := fun _ h => List.mem_append_left _ (List.mem_append_left _ (List.mem_append_left _ (List.mem_append_left _ (List.mem_append_left _ (List.mem_append_right _ h)))))
theorem inX1 : ∀ w ∈ wsX10, w ∈ lw_tbl := fun w h => wsL_law_in w (inlX1 w h)
theorem inlX2 : ∀ w ∈ wsX20, w ∈ wsL_law := fun _ h => List.mem_append_left _ (List.mem_append_left _ (List.mem_append_left _ (List.mem_append_left _ (List.mem_append_left _ (List.mem_append_left _ (List.mem_append_left _ (List.mem_append_left _ (List.mem_append_right _ h))))))))
theorem inX2 : ∀ w ∈ wsX20, w ∈ lw_tbl := fun w h => wsL_law_in w (inlX2 w h)
theorem inlX3 : ∀ w ∈ wsX30, w ∈ wsL_law := fun _ h => List.mem_append_left _ (List.mem_append_left _ (List.mem_append_left _ (List.mem_append_left _ (List.mem_append_left _ (List.mem_append_left _ (List.mem_append_right _ h))))))
theorem inX3 : ∀ w ∈ wsX30, w ∈ lw_tbl := fun w h => wsL_law_in w (inlX3 w h)
theorem inlX4 : ∀ w ∈ wsX40, w ∈ wsL_law := fun _ h => List.mem_append_left _ (List.mem_append_left _ (List.mem_append_left _ (List.mem_append_left _ (List.mem_append_right _ h))))
theorem inX4 : ∀ w ∈ wsX40, w ∈ lw_tbl := fun w h => wsL_law_in w (inlX4 w h)
theorem inlX5 : ∀ w ∈ wsX50, w ∈ wsL_law := fun _ h => List.mem_append_left _ (List.mem_append_left _ (List.mem_append_left _ (List.mem_append_left _ (List.mem_append_left _ (List.mem_append_left _ (List.mem_append_left _ (List.mem_append_left _ (List.mem_append_left _ (List.mem_append_left _ (List.mem_append_right _ h))))))))))
theorem inX5 : ∀ w ∈ wsX50, w ∈ lw_tbl := fun w h => wsL_law_in w (inlX5 w h)
theorem inlX6 : ∀ w ∈ wsX60, w ∈ wsL_law := fun _ h => List.mem_append_left _ (List.mem_append_left _ (List.mem_append_left _ (List.mem_append_left _ (List.mem_append_left _ (List.mem_append_left _ (List.mem_append_left _ (List.mem_append_left _ (List.mem_append_left _ (List.mem_append_right _ h)))))))))
theorem inX6 : ∀ w ∈ wsX60, w ∈ lw_tbl := fun w h => wsL_law_in w (inlX6 w h)
theorem inlX7 : ∀ w ∈ wsX70, w ∈ wsL_law := fun _ h => List.mem_append_left _ (List.mem_append_left _ (List.mem_append_left _ (List.mem_append_left _ (List.mem_append_left _ (List.mem_append_left _ (List.mem_append_left _ (List.mem_append_left _ (List.mem_append_left _ (List.mem_append_left _ (List.mem_append_left _ (List.mem_append_left _ (List.mem_append_right _ h))))))))))))
theorem inX7 : ∀ w ∈ wsX70, w ∈ lw_tbl := fun w h => wsL_law_in w (inlX7 w h)
theorem inlX8 : ∀ w ∈ wsX80, w ∈ wsL_law := fun _ h => List.mem_append_left _ (List.mem_append_left _ (List.mem_append_left _ (List.mem_append_left _ (List.mem_append_left _ (List.mem_append_left _ (List.mem_append_left _ (List.mem_append_left _ (List.mem_append_left _ (List.mem_append_left _ (List.mem_append_left _ (List.mem_append_right _ h)))))))))))
theorem inX8 : ∀ w ∈ wsX80, w ∈ lw_tbl := fun w h => wsL_law_in w (inlX8 w h)
theorem inJ6 : ∀ w ∈ wsJ60, w ∈ lw_tbl := by decide +kernel
theorem inJ9 : ∀ w ∈ wsJ90, w ∈ lw_tbl := by decide +kernel
theorem inJ0 : ∀ w ∈ wsJ00, w ∈ lw_tbl := by decide +kernel
theorem inJ1 : ∀ w ∈ wsJ10, w ∈ lw_tbl := by decide +kernel
theorem inJ2 : ∀ w ∈ wsJ20, w ∈ lw_tbl := by decide +kernel
theorem inJ10 : ∀ w ∈ wsJ100, w ∈ lw_tbl := by decide +kernel
theorem inJ3 : ∀ w ∈ wsJ30, w ∈ lw_tbl := by decide +kernel
