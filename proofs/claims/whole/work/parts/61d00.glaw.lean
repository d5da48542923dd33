set_option maxRecDepth 20000 in
theorem ggL_law_X4_init : GoodIn wsL_law wsX4_init := goodIn_r _ [9, 10, 11, 12, 13, 14, 15, 16, 17, 18, 19, 20, 21, 22, 23, 24, 25, 26, 27, 28, 29, 30, 31, 32, 33, 34, 35, 36, 37, 38, 39, 40, 41, 42, 43, 44, 45, 46, 47, 48, 49, 50, 51, 52, 53, 54, 55, 56, 57, 58, 59, 60, 61, 62, 63, 64, 65, 66, 67, 68, 474, 475, 476, 477, 478, 479, 480, 481, 443, 444, 445, 446, 447, 448, 482, 483, 484, 485, 486, 487, 488, 489, 490, 491, 492, 493, 494, 495, 496, 497, 498, 499] rfl rfl
set_option maxRecDepth 20000 in
theorem gL_law_X4_init : GoodIn wsL_law (wsX4_init) := ggL_law_X4_init
set_option maxRecDepth 20000 in
theorem ggL_law_X5_init : GoodIn wsL_law wsX5_init := goodIn_r _ [71, 72, 11, 12, 34, 73, 36, 74, 75, 76, 77, 39, 78, 79, 80, 81, 82, 83, 84, 85, 86, 87, 88, 89, 90, 91, 92, 449, 450, 451, 452, 453, 454, 455, 456, 457, 458, 459, 460, 461, 462, 463, 464, 465, 466, 467, 468, 469, 470, 471, 472, 473] rfl rfl
set_option maxRecDepth 20000 in
theorem gL_law_X5_init : GoodIn wsL_law (wsX5_init) := ggL_law_X5_init
set_option maxRecDepth 20000 in
theorem ggL_law_X4_lot : GoodIn wsL_law wsX4_lot := goodIn_r _ [96, 16, 28, 97, 98, 2, 99, 100, 101, 102, 103, 104, 105, 106, 107, 15, 108, 37, 38, 109, 42, 110, 111, 112, 113, 114, 35, 41, 115, 116, 117, 27, 118, 68, 61, 119, 62, 65, 120, 121, 122, 123, 124, 125, 126, 127, 443, 444, 445, 446, 447, 448, 474, 475, 476, 477, 478, 479, 480, 481, 492, 493, 494, 495, 496, 497, 498, 499] rfl rfl
set_option maxRecDepth 20000 in
theorem gL_law_X4_lot : GoodIn wsL_law (wsV RL 25 RX4 yX4_lot wsX4_lot) := goodIn_app (goodIn_of _ (by decide +kernel)) ggL_law_X4_lot
set_option maxRecDepth 20000 in
theorem ggL_law_X5_lot : GoodIn wsL_law wsX5_lot := goodIn_r _ [131, 132, 133, 134, 135, 136, 137, 5, 138, 139, 73, 74, 75, 76, 77, 78, 449, 450, 451, 452, 453, 454, 455, 456, 457, 458, 459, 460, 461, 462, 463, 464, 465, 466, 467, 468, 469, 470, 471, 472, 473] rfl rfl
set_option maxRecDepth 20000 in
theorem gL_law_X5_lot : GoodIn wsL_law (wsV RL 29 RX5 yX5_lot wsX5_lot) := goodIn_app (goodIn_of _ (by decide +kernel)) ggL_law_X5_lot
