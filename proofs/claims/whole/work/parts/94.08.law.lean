set_option maxRecDepth 20000 in
theorem ggL_law_X8_height : GoodIn wsL_law wsX8_height := goodIn_r _ [175, 176, 177, 178, 179, 180, 181, 182, 183, 184, 185, 186, 92, 94, 187, 188, 189, 5, 190, 90, 91, 134, 135, 136, 137, 138, 139, 831, 832, 833, 834, 835, 836, 837, 838, 839, 840, 841, 842, 843, 844, 845, 846, 847, 848, 849, 850, 851, 852, 853, 854, 855, 856, 857, 858, 859, 860, 861, 862, 863] (by decide +kernel) (by decide +kernel)
set_option maxRecDepth 20000 in
theorem gL_law_X8_height : GoodIn wsL_law (wsV RL 26 RX8 yX8_height wsX8_height) := goodIn_app (goodIn_of _ (by decide +kernel)) ggL_law_X8_height
