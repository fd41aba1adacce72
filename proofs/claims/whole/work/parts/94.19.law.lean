set_option maxRecDepth 20000 in
theorem ggL_law_X7_line_p1 : GoodIn wsL_law ([.code yX7_line cX7_line 3 (some .int)]) := goodIn_r _ [426] (by decide +kernel) (by decide +kernel)
set_option maxRecDepth 20000 in
theorem ggL_law_X7_line_p2 : GoodIn wsL_law (wsX7_line_r1) := goodIn_r _ [27, 427, 428, 429, 26, 430, 71, 431, 432, 433, 434, 63, 435, 436, 437, 438, 439, 62, 440, 441, 442, 443, 64, 444] (by decide +kernel) (by decide +kernel)
set_option maxRecDepth 20000 in
theorem ggL_law_X7_line_p3 : GoodIn wsL_law (wsX7_line_r2) := goodIn_r _ [445, 446, 447, 69, 70, 448, 449, 346, 450, 451, 452, 453, 454, 455, 67, 456, 84, 293, 294, 39, 295, 457, 458, 459] (by decide +kernel) (by decide +kernel)
set_option maxRecDepth 20000 in
theorem ggL_law_X7_line_p4 : GoodIn wsL_law (wsX7_line_r3) := goodIn_r _ [460, 461, 61, 462, 463, 464, 465, 466, 467, 468, 469, 470, 471, 472, 473, 474, 475, 476, 477, 478, 479, 480, 481, 482] (by decide +kernel) (by decide +kernel)
set_option maxRecDepth 20000 in
theorem ggL_law_X7_line_p5 : GoodIn wsL_law (wsX7_line_r4) := goodIn_r _ [483, 484, 60, 485, 486, 487, 488, 489, 490, 491, 492, 493, 494, 495, 496, 497, 498, 55, 499, 500, 221, 222, 15, 223] (by decide +kernel) (by decide +kernel)
set_option maxRecDepth 20000 in
theorem ggL_law_X7_line_p6 : GoodIn wsL_law (wsX7_line_r5) := goodIn_r _ [33, 32, 501, 502, 503, 504, 505, 506, 507, 508, 509, 510, 511, 512, 513, 514, 515] (by decide +kernel) (by decide +kernel)
set_option maxRecDepth 20000 in
theorem ggL_law_X7_line_p7 : GoodIn wsL_law (wsX70) := goodIn_r _ [825, 826, 827, 828, 829, 830] (by decide +kernel) (by decide +kernel)
set_option maxRecDepth 20000 in
theorem ggL_law_X7_line_p8 : GoodIn wsL_law (wsX40) := goodIn_r _ [872, 873, 874, 875, 876, 877, 878, 879, 880, 881, 882, 883] (by decide +kernel) (by decide +kernel)
set_option maxRecDepth 20000 in
theorem ggL_law_X7_line_p9 : GoodIn wsL_law (wsX00) := goodIn_r _ [888, 889] (by decide +kernel) (by decide +kernel)
set_option maxRecDepth 20000 in
theorem ggL_law_X7_line_p10 : GoodIn wsL_law (wsX20) := goodIn_r _ [864, 865, 866, 867] (by decide +kernel) (by decide +kernel)
set_option maxRecDepth 20000 in
theorem ggL_law_X7_line : GoodIn wsL_law wsX7_line := (goodIn_app ggL_law_X7_line_p1 (goodIn_app (goodIn_app (goodIn_app (goodIn_app (goodIn_app ggL_law_X7_line_p2 (goodIn_app ggL_law_X7_line_p3 (goodIn_app ggL_law_X7_line_p4 (goodIn_app ggL_law_X7_line_p5 ggL_law_X7_line_p6)))) ggL_law_X7_line_p7) ggL_law_X7_line_p8) ggL_law_X7_line_p9) ggL_law_X7_line_p10))
set_option maxRecDepth 20000 in
theorem gL_law_X7_line : GoodIn wsL_law (wsV RL 50 RX7 yX7_line wsX7_line) := goodIn_app (goodIn_of _ (by decide +kernel)) ggL_law_X7_line
