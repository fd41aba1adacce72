set_option maxRecDepth 20000 in
theorem ggL_law_X7_contour_p1 : GoodIn wsL_law ([.code yX7_contour cX7_contour 3 (some .int)]) := goodIn_r _ [271] (by decide +kernel) (by decide +kernel)
set_option maxRecDepth 20000 in
theorem ggL_law_X7_contour_p2 : GoodIn wsL_law (wsX7_contour_r1) := goodIn_r _ [27, 17, 18, 272, 125, 126, 127, 2, 128, 13, 273, 274, 275, 26, 276, 55, 68, 71, 72, 60, 277, 278, 279, 15] (by decide +kernel) (by decide +kernel)
set_option maxRecDepth 20000 in
theorem ggL_law_X7_contour_p3 : GoodIn wsL_law (wsX7_contour_r2) := goodIn_r _ [280, 32, 281, 282, 283, 284, 285, 286, 287, 288, 34, 35, 36, 289, 290, 291, 67, 292, 84, 293, 294, 39, 295, 296] (by decide +kernel) (by decide +kernel)
set_option maxRecDepth 20000 in
theorem ggL_law_X7_contour_p4 : GoodIn wsL_law (wsX7_contour_r3) := goodIn_r _ [204, 205, 206, 33, 297, 298, 299, 300, 59, 301, 302, 303, 304, 305, 58, 306, 78, 79, 307, 308, 309, 38, 40, 310] (by decide +kernel) (by decide +kernel)
set_option maxRecDepth 20000 in
theorem ggL_law_X7_contour_p5 : GoodIn wsL_law (wsX7_contour_r4) := goodIn_r _ [311, 312, 313, 203, 314, 315, 316, 317, 199, 200, 201, 202, 318, 319, 320, 321, 322, 323, 324, 325, 221, 222, 223, 326] (by decide +kernel) (by decide +kernel)
set_option maxRecDepth 20000 in
theorem ggL_law_X7_contour_p6 : GoodIn wsL_law (wsX7_contour_r5) := goodIn_r _ [327, 328, 329, 330, 331, 332, 333, 334, 335, 336, 337, 338, 339, 340, 341, 342, 343, 344, 345, 346, 347, 348, 349, 350] (by decide +kernel) (by decide +kernel)
set_option maxRecDepth 20000 in
theorem ggL_law_X7_contour_p7 : GoodIn wsL_law (wsX7_contour_r6) := goodIn_r _ [351, 352, 353, 354, 355, 356, 357, 358, 359, 360, 361, 362, 62, 61, 63, 64, 363, 364, 365, 366, 367] (by decide +kernel) (by decide +kernel)
set_option maxRecDepth 20000 in
theorem ggL_law_X7_contour_p8 : GoodIn wsL_law (wsX70) := goodIn_r _ [825, 826, 827, 828, 829, 830] (by decide +kernel) (by decide +kernel)
set_option maxRecDepth 20000 in
theorem ggL_law_X7_contour_p9 : GoodIn wsL_law (wsX40) := goodIn_r _ [872, 873, 874, 875, 876, 877, 878, 879, 880, 881, 882, 883] (by decide +kernel) (by decide +kernel)
set_option maxRecDepth 20000 in
theorem ggL_law_X7_contour_p10 : GoodIn wsL_law (wsX20) := goodIn_r _ [864, 865, 866, 867] (by decide +kernel) (by decide +kernel)
set_option maxRecDepth 20000 in
theorem ggL_law_X7_contour_p11 : GoodIn wsL_law (wsX00) := goodIn_r _ [888, 889] (by decide +kernel) (by decide +kernel)
set_option maxRecDepth 20000 in
theorem ggL_law_X7_contour_p12 : GoodIn wsL_law (wsX30) := goodIn_r _ [884, 885, 886, 887] (by decide +kernel) (by decide +kernel)
set_option maxRecDepth 20000 in
theorem ggL_law_X7_contour : GoodIn wsL_law wsX7_contour := (goodIn_app ggL_law_X7_contour_p1 (goodIn_app (goodIn_app (goodIn_app (goodIn_app (goodIn_app (goodIn_app ggL_law_X7_contour_p2 (goodIn_app ggL_law_X7_contour_p3 (goodIn_app ggL_law_X7_contour_p4 (goodIn_app ggL_law_X7_contour_p5 (goodIn_app ggL_law_X7_contour_p6 ggL_law_X7_contour_p7))))) ggL_law_X7_contour_p8) ggL_law_X7_contour_p9) ggL_law_X7_contour_p10) ggL_law_X7_contour_p11) ggL_law_X7_contour_p12))
set_option maxRecDepth 20000 in
theorem gL_law_X7_contour : GoodIn wsL_law (wsV RL 46 RX7 yX7_contour wsX7_contour) := goodIn_app (goodIn_of _ (by decide +kernel)) ggL_law_X7_contour
