set_option maxRecDepth 20000 in
theorem ggL_law_X5_forward : GoodIn wsL_law wsX5_forward := goodIn_r _ [323, 133, 140, 74, 85, 295, 296, 297, 5, 298, 248, 249, 250, 251, 256, 257, 258, 259, 84, 75, 247, 83, 89, 80, 82, 76, 88, 81, 260, 261, 262, 263, 264, 265, 266, 267, 87, 268, 455, 456, 457, 458, 459, 460, 461, 462, 463, 464, 465, 466, 467, 468, 469, 470, 471, 472, 473, 474, 475, 476, 477, 478, 479] rfl rfl
set_option maxRecDepth 20000 in
theorem gL_law_X5_forward : GoodIn wsL_law (wsV RL 63 RX5 yX5_forward wsX5_forward) := goodIn_app (goodIn_of _ (by decide +kernel)) ggL_law_X5_forward
set_option maxRecDepth 20000 in
theorem ggL_law_X4_place : GoodIn wsL_law wsX4_place := goodIn_r _ [327, 16, 328, 316, 317, 318, 15, 319, 35, 120, 121, 122, 123, 115, 449, 450, 451, 452, 453, 454, 480, 481, 482, 483, 484, 485, 486, 487] rfl rfl
set_option maxRecDepth 20000 in
theorem gL_law_X4_place : GoodIn wsL_law (wsV RL 64 RX4 yX4_place wsX4_place) := goodIn_app (goodIn_of _ (by decide +kernel)) ggL_law_X4_place
set_option maxRecDepth 20000 in
theorem ggL_law_X5_place : GoodIn wsL_law wsX5_place := goodIn_r _ [332, 133, 74, 77, 78, 248, 249, 250, 5, 251, 140, 455, 456, 457, 458, 459, 460, 461, 462, 463, 464, 465, 466, 467, 468, 469, 470, 471, 472, 473, 474, 475, 476, 477, 478, 479] rfl rfl
set_option maxRecDepth 20000 in
theorem gL_law_X5_place : GoodIn wsL_law (wsV RL 68 RX5 yX5_place wsX5_place) := goodIn_app (goodIn_of _ (by decide +kernel)) ggL_law_X5_place
set_option maxRecDepth 20000 in
theorem ggL_law_X4_recall : GoodIn wsL_law wsX4_recall := goodIn_r _ [336, 16, 24, 337, 303, 328, 28, 116, 117, 118, 15, 119, 35, 120, 121, 122, 123, 115, 316, 317, 318, 319, 304, 305, 306, 27, 307, 65, 287, 204, 205, 206, 61, 338, 339, 340, 23, 341, 342, 54, 55, 56, 343, 344, 345, 346, 449, 450, 451, 452, 453, 454, 494, 495, 496, 497, 480, 481, 482, 483, 484, 485, 486, 487, 498, 499, 500, 501, 502, 503, 504, 505, 506, 507] rfl rfl
set_option maxRecDepth 20000 in
theorem gL_law_X4_recall : GoodIn wsL_law (wsV RL 69 RX4 yX4_recall wsX4_recall) := goodIn_app (goodIn_of _ (by decide +kernel)) ggL_law_X4_recall
