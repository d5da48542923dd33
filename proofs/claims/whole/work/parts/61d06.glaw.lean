set_option maxRecDepth 20000 in
theorem ggL_law_X5_hold : GoodIn wsL_law wsX5_hold := goodIn_r _ [372, 132, 78, 242, 243, 244, 5, 245, 139, 449, 450, 451, 452, 453, 454, 455, 456, 457, 458, 459, 460, 461, 462, 463, 464, 465, 466, 467, 468, 469, 470, 471, 472, 473] rfl rfl
set_option maxRecDepth 20000 in
theorem gL_law_X5_hold : GoodIn wsL_law (wsV RL 81 RX5 yX5_hold wsX5_hold) := goodIn_app (goodIn_of _ (by decide +kernel)) ggL_law_X5_hold
set_option maxRecDepth 20000 in
theorem ggL_law_X4_correct : GoodIn wsL_law wsX4_correct := goodIn_r _ [376, 20, 166, 100, 30, 377, 16, 167, 378, 29, 28, 101, 102, 2, 103, 104, 210, 211, 212, 27, 213, 214, 215, 216, 217, 218, 219, 220, 221, 222, 61, 62, 63, 64, 65, 68, 188, 223, 224, 225, 226, 227, 116, 117, 118, 119, 120, 121, 122, 15, 123, 35, 124, 125, 126, 127, 114, 228, 185, 186, 187, 66, 189, 190, 191, 192, 193, 194, 195, 196, 67, 197, 198, 199, 200, 201, 202, 203, 204, 205, 171, 172, 173, 233, 234, 235, 236, 379, 380, 381, 382, 383, 384, 385, 386, 443, 444, 445, 446, 447, 448, 482, 483, 484, 485, 486, 487, 474, 475, 476, 477, 478, 479, 480, 481, 492, 493, 494, 495, 496, 497, 498, 499] rfl rfl
set_option maxRecDepth 20000 in
theorem gL_law_X4_correct : GoodIn wsL_law (wsV RL 82 RX4 yX4_correct wsX4_correct) := goodIn_app (goodIn_of _ (by decide +kernel)) ggL_law_X4_correct
set_option maxRecDepth 20000 in
theorem ggL_law_X5_correct : GoodIn wsL_law wsX5_correct := goodIn_r _ [390, 132, 241, 133, 391, 134, 78, 79, 81, 83, 85, 392, 393, 394, 395, 139, 250, 251, 252, 5, 253, 73, 74, 84, 82, 88, 75, 87, 80, 254, 255, 256, 257, 258, 259, 260, 261, 86, 262, 449, 450, 451, 452, 453, 454, 455, 456, 457, 458, 459, 460, 461, 462, 463, 464, 465, 466, 467, 468, 469, 470, 471, 472, 473] rfl rfl
set_option maxRecDepth 20000 in
theorem gL_law_X5_correct : GoodIn wsL_law (wsV RL 86 RX5 yX5_correct wsX5_correct) := goodIn_app (goodIn_of _ (by decide +kernel)) ggL_law_X5_correct
set_option maxRecDepth 20000 in
theorem ggL_law_X4_top : GoodIn wsL_law wsX4_top := goodIn_r _ [399, 16, 20, 166, 310, 311, 312, 15, 313, 35, 124, 125, 126, 127, 114, 170, 171, 172, 173, 97, 98, 2, 99, 100, 169, 121, 122, 123, 400, 401, 402, 19, 403, 183, 49, 50, 404, 405, 406, 407, 408, 409, 354, 355, 356, 357, 410, 411, 412, 413, 167, 178, 28, 272, 190, 191, 27, 192, 62, 63, 414, 415, 416, 417, 174, 175, 176, 177, 29, 179, 180, 181, 182, 184, 185, 186, 187, 68, 188, 66, 61, 65, 64, 189, 193, 194, 195, 196, 67, 197, 198, 199, 200, 201, 202, 203, 204, 205, 206, 207, 208, 209, 46, 47, 48, 210, 211, 212, 213, 214, 215, 216, 217, 218, 219, 220, 221, 222, 223, 224, 225, 226, 227, 116, 117, 118, 119, 120, 228, 229, 230, 231, 232, 233, 234, 235, 236, 443, 444, 445, 446, 447, 448, 482, 483, 484, 485, 486, 487, 474, 475, 476, 477, 478, 479, 480, 481, 492, 493, 494, 495, 496, 497, 498, 499] rfl rfl
set_option maxRecDepth 20000 in
theorem gL_law_X4_top : GoodIn wsL_law (wsV RL 87 RX4 yX4_top wsX4_top) := goodIn_app (goodIn_of _ (by decide +kernel)) ggL_law_X4_top
