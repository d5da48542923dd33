set_option maxRecDepth 20000 in
theorem ggL_law_X5_thrown : GoodIn wsL_law wsX5_thrown := goodIn_r _ [272, 133, 455, 456, 457, 458, 459, 460, 461, 462, 463, 464, 465, 466, 467, 468, 469, 470, 471, 472, 473, 474, 475, 476, 477, 478, 479] rfl rfl
set_option maxRecDepth 20000 in
theorem gL_law_X5_thrown : GoodIn wsL_law (wsV RL 41 RX5 yX5_thrown wsX5_thrown) := goodIn_app (goodIn_of _ (by decide +kernel)) ggL_law_X5_thrown
set_option maxRecDepth 20000 in
theorem ggL_law_X4_left : GoodIn wsL_law wsX4_left := goodIn_r _ [276, 16, 28, 277, 169, 121, 122, 15, 123, 115, 278, 190, 191, 27, 192, 62, 63, 449, 450, 451, 452, 453, 454, 480, 481, 482, 483, 484, 485, 486, 487, 498, 499, 500, 501, 502, 503, 504, 505, 506, 507] rfl rfl
set_option maxRecDepth 20000 in
theorem gL_law_X4_left : GoodIn wsL_law (wsV RL 45 RX4 yX4_left wsX4_left) := goodIn_app (goodIn_of _ (by decide +kernel)) ggL_law_X4_left
set_option maxRecDepth 20000 in
theorem ggL_law_X5_left : GoodIn wsL_law wsX5_left := goodIn_r _ [282, 133, 268, 248, 249, 250, 5, 251, 140, 256, 257, 258, 259, 74, 84, 75, 85, 247, 83, 89, 80, 82, 76, 88, 81, 260, 261, 262, 263, 264, 265, 266, 267, 87, 455, 456, 457, 458, 459, 460, 461, 462, 463, 464, 465, 466, 467, 468, 469, 470, 471, 472, 473, 474, 475, 476, 477, 478, 479] rfl rfl
set_option maxRecDepth 20000 in
theorem gL_law_X5_left : GoodIn wsL_law (wsV RL 49 RX5 yX5_left wsX5_left) := goodIn_app (goodIn_of _ (by decide +kernel)) ggL_law_X5_left
set_option maxRecDepth 20000 in
theorem ggL_law_X4_share : GoodIn wsL_law wsX4_share := goodIn_r _ [286, 16, 277, 28, 169, 121, 122, 15, 123, 115, 116, 117, 118, 119, 35, 120, 287, 204, 205, 27, 206, 61, 278, 190, 191, 192, 62, 63, 288, 289, 2, 290, 449, 450, 451, 452, 453, 454, 480, 481, 482, 483, 484, 485, 486, 487, 498, 499, 500, 501, 502, 503, 504, 505, 506, 507] rfl rfl
set_option maxRecDepth 20000 in
theorem gL_law_X4_share : GoodIn wsL_law (wsV RL 50 RX4 yX4_share wsX4_share) := goodIn_app (goodIn_of _ (by decide +kernel)) ggL_law_X4_share
