set_option maxRecDepth 20000 in
theorem ggL_law_X7_seen : GoodIn wsL_law wsX7_seen := goodIn_r _ [750, 125, 126, 127, 2, 128, 13, 195, 196, 197, 15, 198, 199, 200, 201, 202, 203, 204, 205, 206, 32, 33, 751, 752, 753, 754, 755, 449, 346, 450, 756, 757, 758, 759, 760, 221, 222, 223, 761, 762, 763, 764, 825, 826, 827, 828, 829, 830, 864, 865, 866, 867] (by decide +kernel) (by decide +kernel)
set_option maxRecDepth 20000 in
theorem gL_law_X7_seen : GoodIn wsL_law (wsV RL 81 RX7 yX7_seen wsX7_seen) := goodIn_app (goodIn_of _ (by decide +kernel)) ggL_law_X7_seen
