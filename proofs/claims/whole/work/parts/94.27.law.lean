set_option maxRecDepth 20000 in
theorem ggL_law_X7_point_p1 : GoodIn wsL_law ([.code yX7_point cX7_point 7 (some .int)]) := goodIn_r _ [575] (by decide +kernel) (by decide +kernel)
set_option maxRecDepth 20000 in
theorem ggL_law_X7_point_p2 : GoodIn wsL_law (wsX7_point_r1) := goodIn_r _ [576, 22, 577, 125, 126, 127, 2, 128, 13, 195, 196, 197, 15, 198, 199, 200, 201, 202, 203, 204, 205, 206, 32, 33] (by decide +kernel) (by decide +kernel)
set_option maxRecDepth 20000 in
theorem ggL_law_X7_point_p3 : GoodIn wsL_law (wsX7_point_r2) := goodIn_r _ [578, 579, 21, 580, 581, 582, 315, 316, 317, 583, 221, 222, 223, 584, 585, 586, 587, 588, 589, 590, 591, 45, 592, 593] (by decide +kernel) (by decide +kernel)
set_option maxRecDepth 20000 in
theorem ggL_law_X7_point_p4 : GoodIn wsL_law (wsX7_point_r3) := goodIn_r _ [594, 595, 596, 597, 598, 599, 49, 600, 601, 602, 603, 604, 39, 605, 606, 607, 608, 609, 610, 47, 611, 612, 613, 614] (by decide +kernel) (by decide +kernel)
set_option maxRecDepth 20000 in
theorem ggL_law_X7_point_p5 : GoodIn wsL_law (wsX7_point_r4) := goodIn_r _ [615, 616, 617, 618, 619, 620, 621, 622, 623, 624, 625, 626, 627, 628, 629, 630, 631, 632, 633, 634, 314, 635, 636, 637] (by decide +kernel) (by decide +kernel)
set_option maxRecDepth 20000 in
theorem ggL_law_X7_point_p6 : GoodIn wsL_law ((wsX7_point_r5 ++ wsX7_point_r6)) := goodIn_r _ [638, 330, 639, 640, 641, 642, 643, 644, 645, 646, 647, 648, 649, 650, 229, 651, 652, 653, 654, 655, 656, 657, 658, 659, 660, 661, 662, 663] (by decide +kernel) (by decide +kernel)
set_option maxRecDepth 20000 in
theorem ggL_law_X7_point_p7 : GoodIn wsL_law (wsX70) := goodIn_r _ [825, 826, 827, 828, 829, 830] (by decide +kernel) (by decide +kernel)
set_option maxRecDepth 20000 in
theorem ggL_law_X7_point_p8 : GoodIn wsL_law (wsX20) := goodIn_r _ [864, 865, 866, 867] (by decide +kernel) (by decide +kernel)
set_option maxRecDepth 20000 in
theorem ggL_law_X7_point_p9 : GoodIn wsL_law (wsX60) := goodIn_r _ [868, 869, 870, 871] (by decide +kernel) (by decide +kernel)
set_option maxRecDepth 20000 in
theorem ggL_law_X7_point : GoodIn wsL_law wsX7_point := (goodIn_app ggL_law_X7_point_p1 (goodIn_app (goodIn_app (goodIn_app (goodIn_app ggL_law_X7_point_p2 (goodIn_app ggL_law_X7_point_p3 (goodIn_app ggL_law_X7_point_p4 (goodIn_app ggL_law_X7_point_p5 ggL_law_X7_point_p6)))) ggL_law_X7_point_p7) ggL_law_X7_point_p8) ggL_law_X7_point_p9))
set_option maxRecDepth 20000 in
theorem gL_law_X7_point : GoodIn wsL_law (wsV RL 68 RX7 yX7_point wsX7_point) := goodIn_app (goodIn_of _ (by decide +kernel)) ggL_law_X7_point
