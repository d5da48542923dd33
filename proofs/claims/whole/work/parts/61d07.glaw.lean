set_option maxRecDepth 20000 in
theorem ggL_law_X5_top : GoodIn wsL_law wsX5_top := goodIn_r _ [427, 133, 74, 134, 247, 83, 268, 140, 76, 79, 84, 248, 249, 250, 5, 251, 295, 296, 297, 298, 256, 257, 258, 259, 75, 85, 89, 80, 82, 88, 81, 260, 261, 262, 263, 264, 265, 266, 267, 87, 252, 253, 254, 255, 455, 456, 457, 458, 459, 460, 461, 462, 463, 464, 465, 466, 467, 468, 469, 470, 471, 472, 473, 474, 475, 476, 477, 478, 479] rfl rfl
set_option maxRecDepth 20000 in
theorem gL_law_X5_top : GoodIn wsL_law (wsV RL 91 RX5 yX5_top wsX5_top) := goodIn_app (goodIn_of _ (by decide +kernel)) ggL_law_X5_top
set_option maxRecDepth 20000 in
theorem ggL_law_X4_whole : GoodIn wsL_law wsX4_whole := goodIn_r _ [431, 16, 28, 169, 121, 122, 15, 123, 115, 432, 433, 434, 27, 435, 69, 202, 203, 204, 205, 206, 61, 278, 190, 191, 192, 62, 63, 449, 450, 451, 452, 453, 454, 480, 481, 482, 483, 484, 485, 486, 487, 498, 499, 500, 501, 502, 503, 504, 505, 506, 507] rfl rfl
set_option maxRecDepth 20000 in
theorem gL_law_X4_whole : GoodIn wsL_law (wsV RL 92 RX4 yX4_whole wsX4_whole) := goodIn_app (goodIn_of _ (by decide +kernel)) ggL_law_X4_whole
set_option maxRecDepth 20000 in
theorem ggL_law_X5_whole : GoodIn wsL_law wsX5_whole := goodIn_r _ [439, 133, 248, 249, 250, 5, 251, 140, 455, 456, 457, 458, 459, 460, 461, 462, 463, 464, 465, 466, 467, 468, 469, 470, 471, 472, 473, 474, 475, 476, 477, 478, 479] rfl rfl
set_option maxRecDepth 20000 in
theorem gL_law_X5_whole : GoodIn wsL_law (wsV RL 96 RX5 yX5_whole wsX5_whole) := goodIn_app (goodIn_of _ (by decide +kernel)) ggL_law_X5_whole
set_option maxRecDepth 20000 in
theorem ggL_law_X4_loss : GoodIn wsL_law wsX4_loss := goodIn_r _ [443, 16, 28, 444, 277, 169, 121, 122, 15, 123, 115, 449, 450, 451, 452, 453, 454, 498, 499, 500, 501, 502, 503, 504, 505, 506, 507, 480, 481, 482, 483, 484, 485, 486, 487] rfl rfl
set_option maxRecDepth 20000 in
theorem gL_law_X4_loss : GoodIn wsL_law (wsV RL 97 RX4 yX4_loss wsX4_loss) := goodIn_app (goodIn_of _ (by decide +kernel)) ggL_law_X4_loss
