set_option maxRecDepth 20000 in
theorem ggL_law_X7_volume : GoodIn wsL_law wsX7_volume := goodIn_r _ [738, 739, 740, 125, 126, 127, 2, 128, 13, 725, 311, 312, 15, 313, 203, 204, 205, 206, 32, 33, 314, 315, 316, 317, 199, 200, 201, 202, 741, 327, 328, 329, 330, 221, 222, 223, 825, 826, 827, 828, 829, 830, 864, 865, 866, 867] (by decide +kernel) (by decide +kernel)
set_option maxRecDepth 20000 in
theorem gL_law_X7_volume : GoodIn wsL_law (wsV RL 77 RX7 yX7_volume wsX7_volume) := goodIn_app (goodIn_of _ (by decide +kernel)) ggL_law_X7_volume
