set_option maxRecDepth 20000 in
theorem ggL_law_X7_difference : GoodIn wsL_law wsX7_difference := goodIn_r _ [816, 156, 817, 818, 125, 126, 127, 2, 128, 13, 721, 204, 205, 15, 206, 32, 33, 220, 221, 222, 223, 168, 169, 170, 171, 801, 286, 287, 288, 34, 281, 282, 283, 284, 35, 36, 825, 826, 827, 828, 829, 830, 864, 865, 866, 867] (by decide +kernel) (by decide +kernel)
set_option maxRecDepth 20000 in
theorem gL_law_X7_difference : GoodIn wsL_law (wsV RL 90 RX7 yX7_difference wsX7_difference) := goodIn_app (goodIn_of _ (by decide +kernel)) ggL_law_X7_difference
