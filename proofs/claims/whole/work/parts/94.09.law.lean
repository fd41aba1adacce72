set_option maxRecDepth 20000 in
theorem ggL_law_X7_missing : GoodIn wsL_law wsX7_missing := goodIn_r _ [194, 156, 125, 126, 127, 2, 128, 13, 195, 196, 197, 15, 198, 199, 200, 201, 202, 203, 204, 205, 206, 32, 33, 168, 169, 170, 171, 825, 826, 827, 828, 829, 830, 864, 865, 866, 867] (by decide +kernel) (by decide +kernel)
set_option maxRecDepth 20000 in
theorem gL_law_X7_missing : GoodIn wsL_law (wsV RL 27 RX7 yX7_missing wsX7_missing) := goodIn_app (goodIn_of _ (by decide +kernel)) ggL_law_X7_missing
