set_option maxRecDepth 20000 in
theorem ggL_law_X7_count : GoodIn wsL_law wsX7_count := goodIn_r _ [720, 125, 126, 127, 2, 128, 13, 721, 204, 205, 15, 206, 32, 33, 722, 723, 724, 725, 311, 312, 313, 203, 314, 315, 316, 317, 199, 200, 201, 202, 578, 579, 21, 580, 581, 582, 583, 221, 222, 223, 639, 640, 641, 642, 643, 628, 629, 630, 631, 632, 633, 634, 644, 645, 646, 647, 648, 636, 637, 638, 330, 649, 650, 229, 651, 652, 653, 654, 726, 825, 826, 827, 828, 829, 830, 864, 865, 866, 867] (by decide +kernel) (by decide +kernel)
set_option maxRecDepth 20000 in
theorem gL_law_X7_count : GoodIn wsL_law (wsV RL 73 RX7 yX7_count wsX7_count) := goodIn_app (goodIn_of _ (by decide +kernel)) ggL_law_X7_count
