set_option maxRecDepth 20000 in
theorem ggL_law_X5_forward : GoodIn wsL_law wsX5_forward := goodIn_r _ [317, 132, 139, 73, 84, 289, 290, 291, 5, 292, 242, 243, 244, 245, 250, 251, 252, 253, 83, 74, 241, 82, 88, 79, 81, 75, 87, 80, 254, 255, 256, 257, 258, 259, 260, 261, 86, 262, 449, 450, 451, 452, 453, 454, 455, 456, 457, 458, 459, 460, 461, 462, 463, 464, 465, 466, 467, 468, 469, 470, 471, 472, 473] rfl rfl
set_option maxRecDepth 20000 in
theorem gL_law_X5_forward : GoodIn wsL_law (wsV RL 63 RX5 yX5_forward wsX5_forward) := goodIn_app (goodIn_of _ (by decide +kernel)) ggL_law_X5_forward
set_option maxRecDepth 20000 in
theorem ggL_law_X4_place : GoodIn wsL_law wsX4_place := goodIn_r _ [321, 16, 322, 310, 311, 312, 15, 313, 35, 124, 125, 126, 127, 114, 443, 444, 445, 446, 447, 448, 474, 475, 476, 477, 478, 479, 480, 481] rfl rfl
set_option maxRecDepth 20000 in
theorem gL_law_X4_place : GoodIn wsL_law (wsV RL 64 RX4 yX4_place wsX4_place) := goodIn_app (goodIn_of _ (by decide +kernel)) ggL_law_X4_place
set_option maxRecDepth 20000 in
theorem ggL_law_X5_place : GoodIn wsL_law wsX5_place := goodIn_r _ [326, 132, 73, 76, 77, 242, 243, 244, 5, 245, 139, 449, 450, 451, 452, 453, 454, 455, 456, 457, 458, 459, 460, 461, 462, 463, 464, 465, 466, 467, 468, 469, 470, 471, 472, 473] rfl rfl
set_option maxRecDepth 20000 in
theorem gL_law_X5_place : GoodIn wsL_law (wsV RL 68 RX5 yX5_place wsX5_place) := goodIn_app (goodIn_of _ (by decide +kernel)) ggL_law_X5_place
set_option maxRecDepth 20000 in
theorem ggL_law_X4_recall : GoodIn wsL_law wsX4_recall := goodIn_r _ [330, 16, 24, 331, 297, 322, 28, 169, 121, 122, 15, 123, 35, 124, 125, 126, 127, 114, 310, 311, 312, 313, 298, 299, 300, 27, 301, 65, 281, 198, 199, 200, 61, 332, 333, 334, 23, 335, 336, 54, 55, 56, 337, 338, 339, 340, 443, 444, 445, 446, 447, 448, 488, 489, 490, 491, 474, 475, 476, 477, 478, 479, 480, 481, 492, 493, 494, 495, 496, 497, 498, 499] rfl rfl
set_option maxRecDepth 20000 in
theorem gL_law_X4_recall : GoodIn wsL_law (wsV RL 69 RX4 yX4_recall wsX4_recall) := goodIn_app (goodIn_of _ (by decide +kernel)) ggL_law_X4_recall
