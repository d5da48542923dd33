set_option maxRecDepth 20000 in
theorem ggL_law_X5_recall : GoodIn wsL_law wsX5_recall := goodIn_r _ [344, 132, 345, 346, 139, 77, 76, 73, 84, 89, 90, 91, 92, 83, 289, 290, 291, 5, 292, 242, 243, 244, 245, 250, 251, 252, 253, 74, 241, 82, 88, 79, 81, 75, 87, 80, 254, 255, 256, 257, 258, 259, 260, 261, 86, 262, 449, 450, 451, 452, 453, 454, 455, 456, 457, 458, 459, 460, 461, 462, 463, 464, 465, 466, 467, 468, 469, 470, 471, 472, 473] rfl rfl
set_option maxRecDepth 20000 in
theorem gL_law_X5_recall : GoodIn wsL_law (wsV RL 72 RX5 yX5_recall wsX5_recall) := goodIn_app (goodIn_of _ (by decide +kernel)) ggL_law_X5_recall
set_option maxRecDepth 20000 in
theorem ggL_law_X4_recalled : GoodIn wsL_law wsX4_recalled := goodIn_r _ [350, 24, 331, 351, 352, 353, 354, 355, 356, 357, 358, 443, 444, 445, 446, 447, 448, 488, 489, 490, 491] rfl rfl
set_option maxRecDepth 20000 in
theorem gL_law_X4_recalled : GoodIn wsL_law (wsV RL 73 RX4 yX4_recalled wsX4_recalled) := goodIn_app (goodIn_of _ (by decide +kernel)) ggL_law_X4_recalled
set_option maxRecDepth 20000 in
theorem ggL_law_X5_recalled : GoodIn wsL_law wsX5_recalled := goodIn_r _ [362, 132, 345, 89, 90, 91, 363, 364, 92, 449, 450, 451, 452, 453, 454, 455, 456, 457, 458, 459, 460, 461, 462, 463, 464, 465, 466, 467, 468, 469, 470, 471, 472, 473] rfl rfl
set_option maxRecDepth 20000 in
theorem gL_law_X5_recalled : GoodIn wsL_law (wsV RL 76 RX5 yX5_recalled wsX5_recalled) := goodIn_app (goodIn_of _ (by decide +kernel)) ggL_law_X5_recalled
set_option maxRecDepth 20000 in
theorem ggL_law_X4_hold : GoodIn wsL_law wsX4_hold := goodIn_r _ [368, 16, 167, 168, 125, 126, 15, 127, 114, 443, 444, 445, 446, 447, 448, 474, 475, 476, 477, 478, 479, 480, 481] rfl rfl
set_option maxRecDepth 20000 in
theorem gL_law_X4_hold : GoodIn wsL_law (wsV RL 77 RX4 yX4_hold wsX4_hold) := goodIn_app (goodIn_of _ (by decide +kernel)) ggL_law_X4_hold
