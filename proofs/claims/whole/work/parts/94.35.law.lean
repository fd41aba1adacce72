set_option maxRecDepth 20000 in
theorem ggL_law_X7_smooth : GoodIn wsL_law wsX7_smooth := goodIn_r _ [788, 23, 156, 125, 126, 127, 2, 128, 13, 721, 204, 205, 15, 206, 32, 33, 789, 790, 791, 792, 330, 221, 222, 223, 314, 315, 316, 317, 199, 200, 201, 202, 203, 793, 794, 795, 796, 797, 798, 625, 799, 800, 624, 626, 801, 286, 287, 288, 34, 281, 282, 283, 284, 35, 36, 168, 169, 170, 171, 825, 826, 827, 828, 829, 830, 864, 865, 866, 867] (by decide +kernel) (by decide +kernel)
set_option maxRecDepth 20000 in
theorem gL_law_X7_smooth : GoodIn wsL_law (wsV RL 86 RX7 yX7_smooth wsX7_smooth) := goodIn_app (goodIn_of _ (by decide +kernel)) ggL_law_X7_smooth
