set_option maxRecDepth 20000 in
theorem ggL_law_X7_place : GoodIn wsL_law wsX7_place := goodIn_r _ [532, 27, 524, 459, 460, 26, 461, 62, 61, 435, 428, 429, 430, 71, 462, 437, 438, 439, 533, 482, 483, 484, 60, 485, 432, 433, 434, 63, 534, 535, 536, 537, 55, 538, 539, 540, 159, 541, 542, 543, 500, 221, 222, 15, 223, 33, 32, 501, 502, 503, 825, 826, 827, 828, 829, 830, 872, 873, 874, 875, 876, 877, 878, 879, 880, 881, 882, 883, 864, 865, 866, 867] (by decide +kernel) (by decide +kernel)
set_option maxRecDepth 20000 in
theorem gL_law_X7_place : GoodIn wsL_law (wsV RL 59 RX7 yX7_place wsX7_place) := goodIn_app (goodIn_of _ (by decide +kernel)) ggL_law_X7_place
