set_option maxRecDepth 20000 in
theorem ggL_law_X5_recall : GoodIn wsL_law wsX5_recall := goodIn_r _ [350, 133, 351, 352, 140, 78, 77, 74, 85, 90, 91, 92, 93, 84, 295, 296, 297, 5, 298, 248, 249, 250, 251, 256, 257, 258, 259, 75, 247, 83, 89, 80, 82, 76, 88, 81, 260, 261, 262, 263, 264, 265, 266, 267, 87, 268, 455, 456, 457, 458, 459, 460, 461, 462, 463, 464, 465, 466, 467, 468, 469, 470, 471, 472, 473, 474, 475, 476, 477, 478, 479] rfl rfl
set_option maxRecDepth 20000 in
theorem gL_law_X5_recall : GoodIn wsL_law (wsV RL 72 RX5 yX5_recall wsX5_recall) := goodIn_app (goodIn_of _ (by decide +kernel)) ggL_law_X5_recall
set_option maxRecDepth 20000 in
theorem ggL_law_X4_recalled : GoodIn wsL_law wsX4_recalled := goodIn_r _ [356, 24, 337, 357, 358, 359, 360, 361, 362, 363, 364, 449, 450, 451, 452, 453, 454, 494, 495, 496, 497] rfl rfl
set_option maxRecDepth 20000 in
theorem gL_law_X4_recalled : GoodIn wsL_law (wsV RL 73 RX4 yX4_recalled wsX4_recalled) := goodIn_app (goodIn_of _ (by decide +kernel)) ggL_law_X4_recalled
set_option maxRecDepth 20000 in
theorem ggL_law_X5_recalled : GoodIn wsL_law wsX5_recalled := goodIn_r _ [368, 133, 351, 90, 91, 92, 369, 370, 93, 455, 456, 457, 458, 459, 460, 461, 462, 463, 464, 465, 466, 467, 468, 469, 470, 471, 472, 473, 474, 475, 476, 477, 478, 479] rfl rfl
set_option maxRecDepth 20000 in
theorem gL_law_X5_recalled : GoodIn wsL_law (wsV RL 76 RX5 yX5_recalled wsX5_recalled) := goodIn_app (goodIn_of _ (by decide +kernel)) ggL_law_X5_recalled
set_option maxRecDepth 20000 in
theorem ggL_law_X4_hold : GoodIn wsL_law wsX4_hold := goodIn_r _ [374, 16, 168, 169, 121, 122, 15, 123, 115, 449, 450, 451, 452, 453, 454, 480, 481, 482, 483, 484, 485, 486, 487] rfl rfl
set_option maxRecDepth 20000 in
theorem gL_law_X4_hold : GoodIn wsL_law (wsV RL 77 RX4 yX4_hold wsX4_hold) := goodIn_app (goodIn_of _ (by decide +kernel)) ggL_law_X4_hold
