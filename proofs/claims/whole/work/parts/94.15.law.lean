set_option maxRecDepth 20000 in
theorem ggL_law_X7_levels : GoodIn wsL_law wsX7_levels := goodIn_r _ [263, 18, 825, 826, 827, 828, 829, 830] (by decide +kernel) (by decide +kernel)
set_option maxRecDepth 20000 in
theorem gL_law_X7_levels : GoodIn wsL_law (wsV RL 42 RX7 yX7_levels wsX7_levels) := goodIn_app (goodIn_of _ (by decide +kernel)) ggL_law_X7_levels
