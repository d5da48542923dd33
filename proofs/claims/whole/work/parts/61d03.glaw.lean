set_option maxRecDepth 20000 in
theorem ggL_law_X5_share : GoodIn wsL_law wsX5_share := goodIn_r _ [288, 132, 262, 83, 242, 243, 244, 5, 245, 139, 289, 290, 291, 292, 73, 250, 251, 252, 253, 74, 84, 241, 82, 88, 79, 81, 75, 87, 80, 254, 255, 256, 257, 258, 259, 260, 261, 86, 449, 450, 451, 452, 453, 454, 455, 456, 457, 458, 459, 460, 461, 462, 463, 464, 465, 466, 467, 468, 469, 470, 471, 472, 473] rfl rfl
set_option maxRecDepth 20000 in
theorem gL_law_X5_share : GoodIn wsL_law (wsV RL 54 RX5 yX5_share wsX5_share) := goodIn_app (goodIn_of _ (by decide +kernel)) ggL_law_X5_share
set_option maxRecDepth 20000 in
theorem ggL_law_X4_back : GoodIn wsL_law wsX4_back := goodIn_r _ [296, 16, 297, 28, 168, 125, 126, 15, 127, 114, 298, 299, 300, 27, 301, 65, 443, 444, 445, 446, 447, 448, 474, 475, 476, 477, 478, 479, 480, 481, 492, 493, 494, 495, 496, 497, 498, 499] rfl rfl
set_option maxRecDepth 20000 in
theorem gL_law_X4_back : GoodIn wsL_law (wsV RL 55 RX4 yX4_back wsX4_back) := goodIn_app (goodIn_of _ (by decide +kernel)) ggL_law_X4_back
set_option maxRecDepth 20000 in
theorem ggL_law_X5_back : GoodIn wsL_law wsX5_back := goodIn_r _ [305, 132, 139, 84, 242, 243, 244, 5, 245, 250, 251, 252, 253, 73, 83, 74, 241, 82, 88, 79, 81, 75, 87, 80, 254, 255, 256, 257, 258, 259, 260, 261, 86, 262, 449, 450, 451, 452, 453, 454, 455, 456, 457, 458, 459, 460, 461, 462, 463, 464, 465, 466, 467, 468, 469, 470, 471, 472, 473] rfl rfl
set_option maxRecDepth 20000 in
theorem gL_law_X5_back : GoodIn wsL_law (wsV RL 59 RX5 yX5_back wsX5_back) := goodIn_app (goodIn_of _ (by decide +kernel)) ggL_law_X5_back
set_option maxRecDepth 20000 in
theorem ggL_law_X4_forward : GoodIn wsL_law wsX4_forward := goodIn_r _ [309, 16, 297, 28, 169, 121, 122, 15, 123, 35, 124, 125, 126, 127, 114, 310, 311, 312, 313, 298, 299, 300, 27, 301, 65, 443, 444, 445, 446, 447, 448, 474, 475, 476, 477, 478, 479, 480, 481, 492, 493, 494, 495, 496, 497, 498, 499] rfl rfl
set_option maxRecDepth 20000 in
theorem gL_law_X4_forward : GoodIn wsL_law (wsV RL 60 RX4 yX4_forward wsX4_forward) := goodIn_app (goodIn_of _ (by decide +kernel)) ggL_law_X4_forward
