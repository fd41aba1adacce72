set_option maxRecDepth 20000 in
theorem ggL_law_X7_spacing : GoodIn wsL_law wsX7_spacing := goodIn_r _ [122, 123, 124, 125, 126, 127, 2, 128, 13, 864, 865, 866, 867, 825, 826, 827, 828, 829, 830] (by decide +kernel) (by decide +kernel)
set_option maxRecDepth 20000 in
theorem gL_law_X7_spacing : GoodIn wsL_law (wsV RL 13 RX7 yX7_spacing wsX7_spacing) := goodIn_app (goodIn_of _ (by decide +kernel)) ggL_law_X7_spacing
