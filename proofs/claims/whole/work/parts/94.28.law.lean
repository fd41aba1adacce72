set_option maxRecDepth 20000 in
theorem ggL_law_X8_point_p1 : GoodIn wsL_law ([.code yX8_point cX8_point 6 (some .int)]) := goodIn_r _ [667] (by decide +kernel) (by decide +kernel)
set_option maxRecDepth 20000 in
theorem ggL_law_X8_point_p2 : GoodIn wsL_law (wsX8_point_r1) := goodIn_r _ [668, 669, 134, 135, 5, 136, 137, 138, 139, 211, 212, 213, 214, 94, 670, 671, 672, 673, 92, 674, 675, 676, 677, 678] (by decide +kernel) (by decide +kernel)
set_option maxRecDepth 20000 in
theorem ggL_law_X8_point_p3 : GoodIn wsL_law (wsX8_point_r2) := goodIn_r _ [679, 680, 681, 682, 683, 684, 685, 686, 687, 688, 689, 690, 691, 692, 112, 693, 694, 695, 696, 115, 114, 176, 697, 698] (by decide +kernel) (by decide +kernel)
set_option maxRecDepth 20000 in
theorem ggL_law_X8_point_p4 : GoodIn wsL_law (wsX8_point_r3) := goodIn_r _ [699, 700, 701, 702, 703, 704, 705, 706, 707, 708, 709, 710, 711, 712, 713, 714, 715, 716, 116] (by decide +kernel) (by decide +kernel)
set_option maxRecDepth 20000 in
theorem ggL_law_X8_point_p5 : GoodIn wsL_law (wsX80) := goodIn_r _ [831, 832, 833, 834, 835, 836, 837, 838, 839, 840, 841, 842, 843, 844, 845, 846, 847, 848, 849, 850, 851, 852, 853, 854, 855, 856, 857, 858, 859, 860, 861, 862, 863] (by decide +kernel) (by decide +kernel)
set_option maxRecDepth 20000 in
theorem ggL_law_X8_point : GoodIn wsL_law wsX8_point := (goodIn_app ggL_law_X8_point_p1 (goodIn_app (goodIn_app ggL_law_X8_point_p2 (goodIn_app ggL_law_X8_point_p3 ggL_law_X8_point_p4)) ggL_law_X8_point_p5))
set_option maxRecDepth 20000 in
theorem gL_law_X8_point : GoodIn wsL_law (wsV RL 72 RX8 yX8_point wsX8_point) := goodIn_app (goodIn_of _ (by decide +kernel)) ggL_law_X8_point
