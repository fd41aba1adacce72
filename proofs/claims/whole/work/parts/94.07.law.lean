set_option maxRecDepth 20000 in
theorem ggL_law_X7_height : GoodIn wsL_law wsX7_height := goodIn_r _ [155, 156, 125, 126, 127, 2, 128, 13, 157, 158, 159, 160, 161, 162, 163, 164, 165, 166, 15, 167, 35, 34, 168, 169, 170, 171, 32, 825, 826, 827, 828, 829, 830, 864, 865, 866, 867] (by decide +kernel) (by decide +kernel)
set_option maxRecDepth 20000 in
theorem gL_law_X7_height : GoodIn wsL_law (wsV RL 23 RX7 yX7_height wsX7_height) := goodIn_app (goodIn_of _ (by decide +kernel)) ggL_law_X7_height
