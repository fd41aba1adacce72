set_option maxRecDepth 20000 in
theorem ggL_law_X7_init_p1 : GoodIn wsL_law ([.code yX7_init cX7_init 2 none]) := goodIn_r _ [8] (by decide +kernel) (by decide +kernel)
set_option maxRecDepth 20000 in
theorem ggL_law_X7_init_p2 : GoodIn wsL_law (wsX7_init_r1) := goodIn_r _ [9, 10, 11, 12, 13, 14, 15, 16, 17, 18, 19, 20, 21, 22, 23, 24, 25, 26, 27, 28, 29, 30, 31, 32] (by decide +kernel) (by decide +kernel)
set_option maxRecDepth 20000 in
theorem ggL_law_X7_init_p3 : GoodIn wsL_law (wsX7_init_r2) := goodIn_r _ [33, 34, 35, 36, 37, 38, 39, 40, 41, 42, 43, 44, 45, 46, 47, 48, 49, 50, 51, 52, 53, 54, 55, 56] (by decide +kernel) (by decide +kernel)
set_option maxRecDepth 20000 in
theorem ggL_law_X7_init_p4 : GoodIn wsL_law ((wsX7_init_r3 ++ wsX7_init_r4)) := goodIn_r _ [57, 58, 59, 60, 61, 62, 63, 64, 65, 66, 67, 68, 69, 70, 71, 72, 73, 74, 75, 76, 77, 78, 79, 80, 81, 82, 83, 84] (by decide +kernel) (by decide +kernel)
set_option maxRecDepth 20000 in
theorem ggL_law_X7_init_p5 : GoodIn wsL_law (wsX70) := goodIn_r _ [825, 826, 827, 828, 829, 830] (by decide +kernel) (by decide +kernel)
set_option maxRecDepth 20000 in
theorem ggL_law_X7_init_p6 : GoodIn wsL_law (wsX20) := goodIn_r _ [864, 865, 866, 867] (by decide +kernel) (by decide +kernel)
set_option maxRecDepth 20000 in
theorem ggL_law_X7_init_p7 : GoodIn wsL_law (wsX60) := goodIn_r _ [868, 869, 870, 871] (by decide +kernel) (by decide +kernel)
set_option maxRecDepth 20000 in
theorem ggL_law_X7_init_p8 : GoodIn wsL_law (wsX40) := goodIn_r _ [872, 873, 874, 875, 876, 877, 878, 879, 880, 881, 882, 883] (by decide +kernel) (by decide +kernel)
set_option maxRecDepth 20000 in
theorem ggL_law_X7_init_p9 : GoodIn wsL_law (wsX30) := goodIn_r _ [884, 885, 886, 887] (by decide +kernel) (by decide +kernel)
set_option maxRecDepth 20000 in
theorem ggL_law_X7_init_p10 : GoodIn wsL_law (wsX00) := goodIn_r _ [888, 889] (by decide +kernel) (by decide +kernel)
set_option maxRecDepth 20000 in
theorem ggL_law_X7_init : GoodIn wsL_law wsX7_init := (goodIn_app ggL_law_X7_init_p1 (goodIn_app (goodIn_app (goodIn_app (goodIn_app (goodIn_app (goodIn_app (goodIn_app ggL_law_X7_init_p2 (goodIn_app ggL_law_X7_init_p3 ggL_law_X7_init_p4)) ggL_law_X7_init_p5) ggL_law_X7_init_p6) ggL_law_X7_init_p7) ggL_law_X7_init_p8) ggL_law_X7_init_p9) ggL_law_X7_init_p10))
set_option maxRecDepth 20000 in
theorem gL_law_X7_init : GoodIn wsL_law (wsX7_init) := ggL_law_X7_init
