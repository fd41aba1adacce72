set_option maxRecDepth 20000 in
theorem ggL_law_X7_inside_p1 : GoodIn wsL_law ([.code yX7_inside cX7_inside 4 (some .int)]) := goodIn_r _ [563] (by decide +kernel) (by decide +kernel)
set_option maxRecDepth 20000 in
theorem ggL_law_X7_inside_p2 : GoodIn wsL_law (wsX7_inside_r1) := goodIn_r _ [27, 440, 441, 442, 26, 443, 64, 435, 428, 429, 430, 71, 564, 565, 566, 567, 69, 453, 454, 455, 67, 456, 84, 293] (by decide +kernel) (by decide +kernel)
set_option maxRecDepth 20000 in
theorem ggL_law_X7_inside_p3 : GoodIn wsL_law ((wsX7_inside_r2 ++ wsX7_inside_r3)) := goodIn_r _ [294, 39, 295, 457, 437, 438, 439, 62, 458, 459, 460, 461, 61, 462, 463, 464, 465, 466, 467, 468, 469, 470, 471, 472, 473, 474, 475, 476, 477, 478, 479, 480, 504, 505, 506, 507] (by decide +kernel) (by decide +kernel)
set_option maxRecDepth 20000 in
theorem ggL_law_X7_inside_p4 : GoodIn wsL_law (wsX70) := goodIn_r _ [825, 826, 827, 828, 829, 830] (by decide +kernel) (by decide +kernel)
set_option maxRecDepth 20000 in
theorem ggL_law_X7_inside_p5 : GoodIn wsL_law (wsX40) := goodIn_r _ [872, 873, 874, 875, 876, 877, 878, 879, 880, 881, 882, 883] (by decide +kernel) (by decide +kernel)
set_option maxRecDepth 20000 in
theorem ggL_law_X7_inside_p6 : GoodIn wsL_law (wsX00) := goodIn_r _ [888, 889] (by decide +kernel) (by decide +kernel)
set_option maxRecDepth 20000 in
theorem ggL_law_X7_inside : GoodIn wsL_law wsX7_inside := (goodIn_app ggL_law_X7_inside_p1 (goodIn_app (goodIn_app (goodIn_app (goodIn_app ggL_law_X7_inside_p2 ggL_law_X7_inside_p3) ggL_law_X7_inside_p4) ggL_law_X7_inside_p5) ggL_law_X7_inside_p6))
set_option maxRecDepth 20000 in
theorem gL_law_X7_inside : GoodIn wsL_law (wsV RL 64 RX7 yX7_inside wsX7_inside) := goodIn_app (goodIn_of _ (by decide +kernel)) ggL_law_X7_inside
