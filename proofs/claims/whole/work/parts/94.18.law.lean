set_option maxRecDepth 20000 in
theorem ggL_law_X8_contour_p1 : GoodIn wsL_law ([.code yX8_contour cX8_contour 4 (some .int)]) := goodIn_r _ [371] (by decide +kernel) (by decide +kernel)
set_option maxRecDepth 20000 in
theorem ggL_law_X8_contour_p2 : GoodIn wsL_law (wsX8_contour_r1) := goodIn_r _ [372, 373, 89, 374, 108, 94, 259, 102, 100, 134, 135, 5, 136, 137, 138, 139, 375, 376, 377, 378, 95, 109, 110, 111] (by decide +kernel) (by decide +kernel)
set_option maxRecDepth 20000 in
theorem ggL_law_X8_contour_p3 : GoodIn wsL_law (wsX8_contour_r2) := goodIn_r _ [379, 380, 381, 382, 211, 212, 213, 214, 383, 384, 385, 386, 387, 236, 237, 238, 239, 92, 388, 389, 390, 391, 392, 393] (by decide +kernel) (by decide +kernel)
set_option maxRecDepth 20000 in
theorem ggL_law_X8_contour_p4 : GoodIn wsL_law ((wsX8_contour_r3 ++ wsX8_contour_r4)) := goodIn_r _ [394, 395, 396, 397, 398, 399, 400, 401, 402, 403, 404, 405, 96, 97, 98, 99, 105, 106, 107, 406, 407, 408, 409, 104, 101, 103, 410, 411, 412, 413, 414, 415, 416, 417, 418, 419, 420, 421, 422] (by decide +kernel) (by decide +kernel)
set_option maxRecDepth 20000 in
theorem ggL_law_X8_contour_p5 : GoodIn wsL_law (wsX80) := goodIn_r _ [831, 832, 833, 834, 835, 836, 837, 838, 839, 840, 841, 842, 843, 844, 845, 846, 847, 848, 849, 850, 851, 852, 853, 854, 855, 856, 857, 858, 859, 860, 861, 862, 863] (by decide +kernel) (by decide +kernel)
set_option maxRecDepth 20000 in
theorem ggL_law_X8_contour : GoodIn wsL_law wsX8_contour := (goodIn_app ggL_law_X8_contour_p1 (goodIn_app (goodIn_app ggL_law_X8_contour_p2 (goodIn_app ggL_law_X8_contour_p3 ggL_law_X8_contour_p4)) ggL_law_X8_contour_p5))
set_option maxRecDepth 20000 in
theorem gL_law_X8_contour : GoodIn wsL_law (wsV RL 49 RX8 yX8_contour wsX8_contour) := goodIn_app (goodIn_of _ (by decide +kernel)) ggL_law_X8_contour
