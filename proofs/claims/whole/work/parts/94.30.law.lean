set_option maxRecDepth 20000 in
theorem ggL_law_X8_count_p1 : GoodIn wsL_law ([.code yX8_count cX8_count 6 (some .int)]) := goodIn_r _ [730] (by decide +kernel) (by decide +kernel)
set_option maxRecDepth 20000 in
theorem ggL_law_X8_count_p2 : GoodIn wsL_law (wsX8_count_r1) := goodIn_r _ [134, 135, 5, 136, 137, 138, 139, 211, 212, 213, 214, 94, 731, 732, 733, 734, 379, 380, 381, 382, 670, 671, 672, 673] (by decide +kernel) (by decide +kernel)
set_option maxRecDepth 20000 in
theorem ggL_law_X8_count_p3 : GoodIn wsL_law (wsX8_count_r2) := goodIn_r _ [92, 674, 675, 676, 677, 678, 679, 680, 681, 682, 683, 684, 701, 702, 703, 704, 697, 698, 699, 700, 705, 706, 707, 708] (by decide +kernel) (by decide +kernel)
set_option maxRecDepth 20000 in
theorem ggL_law_X8_count_p4 : GoodIn wsL_law (wsX80) := goodIn_r _ [831, 832, 833, 834, 835, 836, 837, 838, 839, 840, 841, 842, 843, 844, 845, 846, 847, 848, 849, 850, 851, 852, 853, 854, 855, 856, 857, 858, 859, 860, 861, 862, 863] (by decide +kernel) (by decide +kernel)
set_option maxRecDepth 20000 in
theorem ggL_law_X8_count : GoodIn wsL_law wsX8_count := (goodIn_app ggL_law_X8_count_p1 (goodIn_app (goodIn_app ggL_law_X8_count_p2 ggL_law_X8_count_p3) ggL_law_X8_count_p4))
set_option maxRecDepth 20000 in
theorem gL_law_X8_count : GoodIn wsL_law (wsV RL 76 RX8 yX8_count wsX8_count) := goodIn_app (goodIn_of _ (by decide +kernel)) ggL_law_X8_count
