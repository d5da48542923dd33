set_option maxRecDepth 20000 in
theorem ggL_law_X5_top : GoodIn wsL_law wsX5_top := goodIn_r _ [421, 132, 73, 133, 241, 82, 262, 139, 75, 78, 83, 242, 243, 244, 5, 245, 289, 290, 291, 292, 250, 251, 252, 253, 74, 84, 88, 79, 81, 87, 80, 254, 255, 256, 257, 258, 259, 260, 261, 86, 246, 247, 248, 249, 449, 450, 451, 452, 453, 454, 455, 456, 457, 458, 459, 460, 461, 462, 463, 464, 465, 466, 467, 468, 469, 470, 471, 472, 473] rfl rfl
set_option maxRecDepth 20000 in
theorem gL_law_X5_top : GoodIn wsL_law (wsV RL 91 RX5 yX5_top wsX5_top) := goodIn_app (goodIn_of _ (by decide +kernel)) ggL_law_X5_top
set_option maxRecDepth 20000 in
theorem ggL_law_X4_whole : GoodIn wsL_law wsX4_whole := goodIn_r _ [425, 16, 28, 168, 125, 126, 15, 127, 114, 426, 427, 428, 27, 429, 68, 188, 197, 198, 199, 200, 61, 272, 190, 191, 192, 62, 63, 443, 444, 445, 446, 447, 448, 474, 475, 476, 477, 478, 479, 480, 481, 492, 493, 494, 495, 496, 497, 498, 499] rfl rfl
set_option maxRecDepth 20000 in
theorem gL_law_X4_whole : GoodIn wsL_law (wsV RL 92 RX4 yX4_whole wsX4_whole) := goodIn_app (goodIn_of _ (by decide +kernel)) ggL_law_X4_whole
set_option maxRecDepth 20000 in
theorem ggL_law_X5_whole : GoodIn wsL_law wsX5_whole := goodIn_r _ [433, 132, 242, 243, 244, 5, 245, 139, 449, 450, 451, 452, 453, 454, 455, 456, 457, 458, 459, 460, 461, 462, 463, 464, 465, 466, 467, 468, 469, 470, 471, 472, 473] rfl rfl
set_option maxRecDepth 20000 in
theorem gL_law_X5_whole : GoodIn wsL_law (wsV RL 96 RX5 yX5_whole wsX5_whole) := goodIn_app (goodIn_of _ (by decide +kernel)) ggL_law_X5_whole
set_option maxRecDepth 20000 in
theorem ggL_law_X4_loss : GoodIn wsL_law wsX4_loss := goodIn_r _ [437, 16, 28, 438, 271, 168, 125, 126, 15, 127, 114, 443, 444, 445, 446, 447, 448, 492, 493, 494, 495, 496, 497, 498, 499, 474, 475, 476, 477, 478, 479, 480, 481] rfl rfl
set_option maxRecDepth 20000 in
theorem gL_law_X4_loss : GoodIn wsL_law (wsV RL 97 RX4 yX4_loss wsX4_loss) := goodIn_app (goodIn_of _ (by decide +kernel)) ggL_law_X4_loss
