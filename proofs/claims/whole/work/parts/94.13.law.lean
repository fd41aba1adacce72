set_option maxRecDepth 20000 in
theorem ggL_law_X7_level : GoodIn wsL_law wsX7_level := goodIn_r _ [254, 18, 17, 825, 826, 827, 828, 829, 830] (by decide +kernel) (by decide +kernel)
set_option maxRecDepth 20000 in
theorem gL_law_X7_level : GoodIn wsL_law (wsV RL 37 RX7 yX7_level wsX7_level) := goodIn_app (goodIn_of _ (by decide +kernel)) ggL_law_X7_level
