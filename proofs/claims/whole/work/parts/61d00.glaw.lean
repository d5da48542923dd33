set_option maxRecDepth 20000 in
theorem ggL_law_X4_init : GoodIn wsL_law wsX4_init := goodIn_r _ [9, 10, 11, 12, 13, 14, 15, 16, 17, 18, 19, 20, 21, 22, 23, 24, 25, 26, 27, 28, 29, 30, 31, 32, 33, 34, 35, 36, 37, 38, 39, 40, 41, 42, 43, 44, 45, 46, 47, 48, 49, 50, 51, 52, 53, 54, 55, 56, 57, 58, 59, 60, 61, 62, 63, 64, 65, 66, 67, 68, 69, 480, 481, 482, 483, 484, 485, 486, 487, 449, 450, 451, 452, 453, 454, 488, 489, 490, 491, 492, 493, 494, 495, 496, 497, 498, 499, 500, 501, 502, 503, 504, 505, 506, 507] rfl rfl
set_option maxRecDepth 20000 in
theorem gL_law_X4_init : GoodIn wsL_law (wsX4_init) := ggL_law_X4_init
set_option maxRecDepth 20000 in
theorem ggL_law_X5_init : GoodIn wsL_law wsX5_init := goodIn_r _ [72, 73, 11, 12, 34, 74, 36, 75, 76, 77, 78, 39, 79, 80, 81, 82, 83, 84, 85, 86, 87, 88, 89, 90, 91, 92, 93, 455, 456, 457, 458, 459, 460, 461, 462, 463, 464, 465, 466, 467, 468, 469, 470, 471, 472, 473, 474, 475, 476, 477, 478, 479] rfl rfl
set_option maxRecDepth 20000 in
theorem gL_law_X5_init : GoodIn wsL_law (wsX5_init) := ggL_law_X5_init
set_option maxRecDepth 20000 in
theorem ggL_law_X4_lot : GoodIn wsL_law wsX4_lot := goodIn_r _ [97, 16, 28, 98, 99, 2, 100, 101, 102, 103, 104, 105, 106, 107, 108, 15, 109, 37, 38, 110, 42, 111, 112, 113, 114, 115, 35, 41, 116, 117, 118, 119, 120, 121, 122, 123, 124, 125, 126, 27, 127, 61, 69, 128, 62, 65, 449, 450, 451, 452, 453, 454, 480, 481, 482, 483, 484, 485, 486, 487, 498, 499, 500, 501, 502, 503, 504, 505, 506, 507] rfl rfl
set_option maxRecDepth 20000 in
theorem gL_law_X4_lot : GoodIn wsL_law (wsV RL 25 RX4 yX4_lot wsX4_lot) := goodIn_app (goodIn_of _ (by decide +kernel)) ggL_law_X4_lot
set_option maxRecDepth 20000 in
theorem ggL_law_X5_lot : GoodIn wsL_law wsX5_lot := goodIn_r _ [132, 133, 134, 135, 136, 137, 138, 5, 139, 140, 74, 75, 76, 77, 78, 79, 455, 456, 457, 458, 459, 460, 461, 462, 463, 464, 465, 466, 467, 468, 469, 470, 471, 472, 473, 474, 475, 476, 477, 478, 479] rfl rfl
set_option maxRecDepth 20000 in
theorem gL_law_X5_lot : GoodIn wsL_law (wsV RL 29 RX5 yX5_lot wsX5_lot) := goodIn_app (goodIn_of _ (by decide +kernel)) ggL_law_X5_lot
