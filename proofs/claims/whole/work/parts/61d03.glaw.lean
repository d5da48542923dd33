set_option maxRecDepth 20000 in
theorem ggL_law_X5_share : GoodIn wsL_law wsX5_share := goodIn_r _ [294, 133, 268, 84, 248, 249, 250, 5, 251, 140, 295, 296, 297, 298, 74, 256, 257, 258, 259, 75, 85, 247, 83, 89, 80, 82, 76, 88, 81, 260, 261, 262, 263, 264, 265, 266, 267, 87, 455, 456, 457, 458, 459, 460, 461, 462, 463, 464, 465, 466, 467, 468, 469, 470, 471, 472, 473, 474, 475, 476, 477, 478, 479] rfl rfl
set_option maxRecDepth 20000 in
theorem gL_law_X5_share : GoodIn wsL_law (wsV RL 54 RX5 yX5_share wsX5_share) := goodIn_app (goodIn_of _ (by decide +kernel)) ggL_law_X5_share
set_option maxRecDepth 20000 in
theorem ggL_law_X4_back : GoodIn wsL_law wsX4_back := goodIn_r _ [302, 16, 303, 28, 169, 121, 122, 15, 123, 115, 304, 305, 306, 27, 307, 65, 449, 450, 451, 452, 453, 454, 480, 481, 482, 483, 484, 485, 486, 487, 498, 499, 500, 501, 502, 503, 504, 505, 506, 507] rfl rfl
set_option maxRecDepth 20000 in
theorem gL_law_X4_back : GoodIn wsL_law (wsV RL 55 RX4 yX4_back wsX4_back) := goodIn_app (goodIn_of _ (by decide +kernel)) ggL_law_X4_back
set_option maxRecDepth 20000 in
theorem ggL_law_X5_back : GoodIn wsL_law wsX5_back := goodIn_r _ [311, 133, 140, 85, 248, 249, 250, 5, 251, 256, 257, 258, 259, 74, 84, 75, 247, 83, 89, 80, 82, 76, 88, 81, 260, 261, 262, 263, 264, 265, 266, 267, 87, 268, 455, 456, 457, 458, 459, 460, 461, 462, 463, 464, 465, 466, 467, 468, 469, 470, 471, 472, 473, 474, 475, 476, 477, 478, 479] rfl rfl
set_option maxRecDepth 20000 in
theorem gL_law_X5_back : GoodIn wsL_law (wsV RL 59 RX5 yX5_back wsX5_back) := goodIn_app (goodIn_of _ (by decide +kernel)) ggL_law_X5_back
set_option maxRecDepth 20000 in
theorem ggL_law_X4_forward : GoodIn wsL_law wsX4_forward := goodIn_r _ [315, 16, 303, 28, 116, 117, 118, 15, 119, 35, 120, 121, 122, 123, 115, 316, 317, 318, 319, 304, 305, 306, 27, 307, 65, 449, 450, 451, 452, 453, 454, 480, 481, 482, 483, 484, 485, 486, 487, 498, 499, 500, 501, 502, 503, 504, 505, 506, 507] rfl rfl
set_option maxRecDepth 20000 in
theorem gL_law_X4_forward : GoodIn wsL_law (wsV RL 60 RX4 yX4_forward wsX4_forward) := goodIn_app (goodIn_of _ (by decide +kernel)) ggL_law_X4_forward
