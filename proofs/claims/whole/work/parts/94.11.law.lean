set_option maxRecDepth 20000 in
theorem ggL_law_X7_at : GoodIn wsL_law wsX7_at := goodIn_r _ [218, 219, 125, 126, 127, 2, 128, 13, 195, 196, 197, 15, 198, 199, 200, 201, 202, 203, 204, 205, 206, 32, 33, 220, 221, 222, 223, 224, 225, 159, 226, 163, 161, 162, 227, 228, 229, 230, 231, 825, 826, 827, 828, 829, 830, 864, 865, 866, 867] (by decide +kernel) (by decide +kernel)
set_option maxRecDepth 20000 in
theorem gL_law_X7_at : GoodIn wsL_law (wsV RL 32 RX7 yX7_at wsX7_at) := goodIn_app (goodIn_of _ (by decide +kernel)) ggL_law_X7_at
