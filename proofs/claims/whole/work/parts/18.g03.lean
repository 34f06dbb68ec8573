set_option maxRecDepth 20000 in
theorem ggL_law_X8_wait : GoodIn wsL_law wsX8_wait := goodIn_r _ [653, 145, 484, 462, 111, 110, 475, 148, 149, 150, 5, 151, 480, 481, 482, 483, 107, 370, 371, 372, 373, 306, 106, 788, 789, 790, 791, 792, 793, 794, 795, 796, 797, 798, 799, 800, 801, 802, 803, 804, 805, 806, 807, 808, 809, 810, 811, 812, 813, 814, 815, 816, 817, 818] (by decide +kernel) (by decide +kernel)
set_option maxRecDepth 20000 in
theorem gL_law_X8_wait : GoodIn wsL_law (wsV RL 128 RX8 yX8_wait wsX8_wait) := goodIn_app (goodIn_of _ (by decide +kernel)) ggL_law_X8_wait
set_option maxRecDepth 20000 in
theorem ggL_law_L_debt : GoodIn wsL_law wsL_debt := goodIn_ca (goodIn_ca (goodIn_r _ [656, 377, 125, 657, 658, 659, 2, 660, 391, 392, 131, 132, 32, 643, 661, 662, 644, 663, 645, 447, 448, 31, 449, 79, 779, 780, 781, 782, 783, 784, 785, 786, 787, 844, 845, 846, 847, 848] (by decide +kernel) (by decide +kernel)) (goodIn_sub (fun _ h => List.mem_append_right _ h) (by decide +kernel))) (goodIn_sub (fun _ h => List.mem_append_left _ (List.mem_append_left _ (List.mem_append_right _ h))) (by decide +kernel))
set_option maxRecDepth 20000 in
theorem gL_law_L_debt : GoodIn wsL_law (va_wsS RL 129 yL_debt wsL_debt) := goodIn_app (goodIn_of _ (by decide +kernel)) ggL_law_L_debt
set_option maxRecDepth 20000 in
theorem ggL_law_X8_debt : GoodIn wsL_law wsX8_debt := goodIn_r _ [667, 145, 462, 108, 109, 110, 111, 112, 148, 149, 150, 5, 151, 788, 789, 790, 791, 792, 793, 794, 795, 796, 797, 798, 799, 800, 801, 802, 803, 804, 805, 806, 807, 808, 809, 810, 811, 812, 813, 814, 815, 816, 817, 818] (by decide +kernel) (by decide +kernel)
set_option maxRecDepth 20000 in
theorem gL_law_X8_debt : GoodIn wsL_law (wsV RL 131 RX8 yX8_debt wsX8_debt) := goodIn_app (goodIn_of _ (by decide +kernel)) ggL_law_X8_debt
set_option maxRecDepth 20000 in
theorem ggL_law_X7_late : GoodIn wsL_law wsX7_late := goodIn_r _ [671, 32, 41, 672, 673, 674, 31, 675, 80, 78, 79, 446, 447, 448, 449, 779, 780, 781, 782, 783, 784, 785, 786, 787, 844, 845, 846, 847, 848] (by decide +kernel) (by decide +kernel)
set_option maxRecDepth 20000 in
theorem gL_law_X7_late : GoodIn wsL_law (wsV RL 132 RX7 yX7_late wsX7_late) := goodIn_app (goodIn_of _ (by decide +kernel)) ggL_law_X7_late
set_option maxRecDepth 20000 in
theorem ggL_law_X8_late : GoodIn wsL_law wsX8_late := goodIn_r _ [679, 145, 462, 111, 110, 112, 484, 788, 789, 790, 791, 792, 793, 794, 795, 796, 797, 798, 799, 800, 801, 802, 803, 804, 805, 806, 807, 808, 809, 810, 811, 812, 813, 814, 815, 816, 817, 818] (by decide +kernel) (by decide +kernel)
set_option maxRecDepth 20000 in
theorem gL_law_X8_late : GoodIn wsL_law (wsV RL 135 RX8 yX8_late wsX8_late) := goodIn_app (goodIn_of _ (by decide +kernel)) ggL_law_X8_late
set_option maxRecDepth 20000 in
theorem ggL_law_L_about : GoodIn wsL_law wsL_about := goodIn_ca (goodIn_ca (goodIn_r _ [682, 377, 125, 683, 684, 685, 2, 686, 131, 132, 28, 382, 397, 387, 388, 389, 390, 391, 392, 136, 687, 688, 689, 27, 690, 71, 72, 69, 779, 780, 781, 782, 783, 784, 785, 786, 787, 840, 841, 842, 843] (by decide +kernel) (by decide +kernel)) (goodIn_sub (fun _ h => List.mem_append_left _ (List.mem_append_left _ (List.mem_append_right _ h))) (by decide +kernel))) (goodIn_sub (fun _ h => List.mem_append_right _ h) (by decide +kernel))
set_option maxRecDepth 20000 in
theorem gL_law_L_about : GoodIn wsL_law (va_wsS RL 136 yL_about wsL_about) := goodIn_app (goodIn_of _ (by decide +kernel)) ggL_law_L_about
set_option maxRecDepth 20000 in
theorem ggL_law_X8_about : GoodIn wsL_law wsX8_about := goodIn_r _ [694, 145, 101, 103, 147, 102, 467, 468, 469, 5, 470, 148, 149, 150, 151, 788, 789, 790, 791, 792, 793, 794, 795, 796, 797, 798, 799, 800, 801, 802, 803, 804, 805, 806, 807, 808, 809, 810, 811, 812, 813, 814, 815, 816, 817, 818] (by decide +kernel) (by decide +kernel)
set_option maxRecDepth 20000 in
theorem gL_law_X8_about : GoodIn wsL_law (wsV RL 138 RX8 yX8_about wsX8_about) := goodIn_app (goodIn_of _ (by decide +kernel)) ggL_law_X8_about
set_option maxRecDepth 20000 in
theorem ggL_law_L_fame : GoodIn wsL_law wsL_fame := goodIn_ca (goodIn_r _ [697, 377, 698, 699, 700, 2, 701, 28, 431, 387, 388, 389, 390, 391, 392, 136, 779, 780, 781, 782, 783, 784, 785, 786, 787, 840, 841, 842, 843] (by decide +kernel) (by decide +kernel)) (goodIn_sub (fun _ h => List.mem_append_right _ h) (by decide +kernel))
set_option maxRecDepth 20000 in
theorem gL_law_L_fame : GoodIn wsL_law (va_wsS RL 139 yL_fame wsL_fame) := goodIn_app (goodIn_of _ (by decide +kernel)) ggL_law_L_fame
set_option maxRecDepth 20000 in
theorem ggL_law_X8_fame : GoodIn wsL_law wsX8_fame := goodIn_r _ [705, 145, 102, 467, 468, 469, 5, 470, 147, 148, 149, 150, 151, 788, 789, 790, 791, 792, 793, 794, 795, 796, 797, 798, 799, 800, 801, 802, 803, 804, 805, 806, 807, 808, 809, 810, 811, 812, 813, 814, 815, 816, 817, 818] (by decide +kernel) (by decide +kernel)
set_option maxRecDepth 20000 in
theorem gL_law_X8_fame : GoodIn wsL_law (wsV RL 141 RX8 yX8_fame wsX8_fame) := goodIn_app (goodIn_of _ (by decide +kernel)) ggL_law_X8_fame
set_option maxRecDepth 20000 in
theorem ggL_law_L_gather : GoodIn wsL_law wsL_gather := goodIn_ca (goodIn_r _ [708, 377, 709, 710, 711, 2, 712, 28, 397, 713, 40, 32, 387, 388, 389, 390, 391, 392, 136, 714, 715, 716, 39, 717, 91, 718, 93, 719, 720, 721, 722, 723, 724, 447, 448, 31, 449, 79, 725, 726, 727, 728, 729, 730, 731, 732, 94, 96, 95, 733, 734, 735, 736, 737, 403, 277, 404, 779, 780, 781, 782, 783, 784, 785, 786, 787, 840, 841, 842, 843, 853, 854, 855, 856, 857, 844, 845, 846, 847, 848] (by decide +kernel) (by decide +kernel)) (goodIn_sub (fun _ h => List.mem_append_right _ h) (by decide +kernel))
set_option maxRecDepth 20000 in
theorem gL_law_L_gather : GoodIn wsL_law (va_wsS RL 142 yL_gather wsL_gather) := goodIn_app (goodIn_of _ (by decide +kernel)) ggL_law_L_gather
set_option maxRecDepth 20000 in
theorem ggL_law_X8_gather : GoodIn wsL_law wsX8_gather := goodIn_r _ [741, 145, 103, 742, 467, 468, 469, 5, 470, 147, 148, 149, 150, 151, 743, 744, 745, 746, 116, 117, 101, 462, 111, 112, 108, 109, 110, 747, 120, 118, 748, 749, 750, 751, 119, 788, 789, 790, 791, 792, 793, 794, 795, 796, 797, 798, 799, 800, 801, 802, 803, 804, 805, 806, 807, 808, 809, 810, 811, 812, 813, 814, 815, 816, 817, 818] (by decide +kernel) (by decide +kernel)
set_option maxRecDepth 20000 in
theorem gL_law_X8_gather : GoodIn wsL_law (wsV RL 144 RX8 yX8_gather wsX8_gather) := goodIn_app (goodIn_of _ (by decide +kernel)) ggL_law_X8_gather
set_option maxRecDepth 20000 in
theorem ggL_law_L_hold : GoodIn wsL_law wsL_hold := goodIn_ca (goodIn_r _ [754, 377, 755, 756, 757, 2, 758, 28, 397, 40, 32, 387, 388, 389, 390, 391, 392, 136, 714, 715, 716, 39, 717, 91, 718, 93, 719, 720, 721, 722, 723, 724, 447, 448, 31, 449, 79, 725, 726, 727, 728, 729, 730, 731, 732, 94, 96, 95, 733, 734, 735, 736, 737, 403, 277, 404, 759, 760, 761, 762, 779, 780, 781, 782, 783, 784, 785, 786, 787, 840, 841, 842, 843, 853, 854, 855, 856, 857, 844, 845, 846, 847, 848] (by decide +kernel) (by decide +kernel)) (goodIn_sub (fun _ h => List.mem_append_right _ h) (by decide +kernel))
set_option maxRecDepth 20000 in
theorem gL_law_L_hold : GoodIn wsL_law (va_wsS RL 145 yL_hold wsL_hold) := goodIn_app (goodIn_of _ (by decide +kernel)) ggL_law_L_hold
set_option maxRecDepth 20000 in
theorem ggL_law_X8_hold : GoodIn wsL_law wsX8_hold := goodIn_r _ [766, 145, 103, 147, 119, 467, 468, 469, 5, 470, 148, 149, 150, 151, 743, 744, 745, 746, 116, 117, 101, 462, 111, 112, 108, 109, 110, 747, 120, 118, 748, 749, 750, 751, 788, 789, 790, 791, 792, 793, 794, 795, 796, 797, 798, 799, 800, 801, 802, 803, 804, 805, 806, 807, 808, 809, 810, 811, 812, 813, 814, 815, 816, 817, 818] (by decide +kernel) (by decide +kernel)
set_option maxRecDepth 20000 in
theorem gL_law_X8_hold : GoodIn wsL_law (wsV RL 147 RX8 yX8_hold wsX8_hold) := goodIn_app (goodIn_of _ (by decide +kernel)) ggL_law_X8_hold
set_option maxRecDepth 20000 in
theorem ggL_law_X7_count : GoodIn wsL_law wsX7_count := goodIn_r _ [770, 28, 136, 24, 177, 32, 643, 36, 515, 41, 16, 160, 771, 772, 773, 31, 774, 80, 78, 779, 780, 781, 782, 783, 784, 785, 786, 787, 840, 841, 842, 843, 832, 833, 834, 835, 836, 837, 838, 839, 844, 845, 846, 847, 848, 849, 850, 851, 852, 819, 820] (by decide +kernel) (by decide +kernel)
set_option maxRecDepth 20000 in
theorem gL_law_X7_count : GoodIn wsL_law (wsV RL 148 RX7 yX7_count wsX7_count) := goodIn_app (goodIn_of _ (by decide +kernel)) ggL_law_X7_count
set_option maxRecDepth 20000 in
theorem ggL_law_X8_count : GoodIn wsL_law wsX8_count := goodIn_r _ [778, 145, 147, 306, 462, 110, 524, 484, 169, 788, 789, 790, 791, 792, 793, 794, 795, 796, 797, 798, 799, 800, 801, 802, 803, 804, 805, 806, 807, 808, 809, 810, 811, 812, 813, 814, 815, 816, 817, 818] (by decide +kernel) (by decide +kernel)
set_option maxRecDepth 20000 in
theorem gL_law_X8_count : GoodIn wsL_law (wsV RL 151 RX8 yX8_count wsX8_count) := goodIn_app (goodIn_of _ (by decide +kernel)) ggL_law_X8_count
