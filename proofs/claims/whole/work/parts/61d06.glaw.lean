set_option maxRecDepth 20000 in
theorem ggL_law_X5_hold : GoodIn wsL_law wsX5_hold := goodIn_r _ [378, 133, 79, 248, 249, 250, 5, 251, 140, 455, 456, 457, 458, 459, 460, 461, 462, 463, 464, 465, 466, 467, 468, 469, 470, 471, 472, 473, 474, 475, 476, 477, 478, 479] rfl rfl
set_option maxRecDepth 20000 in
theorem gL_law_X5_hold : GoodIn wsL_law (wsV RL 81 RX5 yX5_hold wsX5_hold) := goodIn_app (goodIn_of _ (by decide +kernel)) ggL_law_X5_hold
set_option maxRecDepth 20000 in
theorem ggL_law_X4_correct : GoodIn wsL_law wsX4_correct := goodIn_r _ [382, 20, 167, 101, 30, 383, 16, 168, 384, 29, 28, 102, 103, 2, 104, 105, 216, 217, 218, 27, 219, 220, 221, 222, 223, 224, 225, 226, 227, 228, 61, 62, 63, 64, 65, 69, 202, 229, 230, 231, 232, 193, 117, 118, 15, 119, 35, 120, 121, 122, 123, 115, 233, 125, 126, 127, 128, 234, 185, 186, 187, 188, 66, 67, 189, 190, 191, 192, 194, 195, 196, 197, 198, 199, 200, 201, 68, 203, 204, 205, 206, 207, 208, 209, 210, 211, 171, 172, 173, 239, 240, 241, 242, 385, 386, 387, 388, 389, 390, 391, 392, 449, 450, 451, 452, 453, 454, 488, 489, 490, 491, 492, 493, 480, 481, 482, 483, 484, 485, 486, 487, 498, 499, 500, 501, 502, 503, 504, 505, 506, 507] rfl rfl
set_option maxRecDepth 20000 in
theorem gL_law_X4_correct : GoodIn wsL_law (wsV RL 82 RX4 yX4_correct wsX4_correct) := goodIn_app (goodIn_of _ (by decide +kernel)) ggL_law_X4_correct
set_option maxRecDepth 20000 in
theorem ggL_law_X5_correct : GoodIn wsL_law wsX5_correct := goodIn_r _ [396, 133, 247, 134, 397, 135, 79, 80, 82, 84, 86, 398, 399, 400, 401, 140, 256, 257, 258, 5, 259, 74, 75, 85, 83, 89, 76, 88, 81, 260, 261, 262, 263, 264, 265, 266, 267, 87, 268, 455, 456, 457, 458, 459, 460, 461, 462, 463, 464, 465, 466, 467, 468, 469, 470, 471, 472, 473, 474, 475, 476, 477, 478, 479] rfl rfl
set_option maxRecDepth 20000 in
theorem gL_law_X5_correct : GoodIn wsL_law (wsV RL 86 RX5 yX5_correct wsX5_correct) := goodIn_app (goodIn_of _ (by decide +kernel)) ggL_law_X5_correct
set_option maxRecDepth 20000 in
theorem ggL_law_X4_top : GoodIn wsL_law wsX4_top := goodIn_r _ [405, 16, 20, 167, 316, 317, 318, 15, 319, 35, 120, 121, 122, 123, 115, 170, 171, 172, 173, 98, 99, 2, 100, 101, 116, 117, 118, 119, 406, 407, 408, 19, 409, 183, 49, 50, 410, 411, 412, 413, 414, 415, 360, 361, 362, 363, 416, 417, 418, 419, 168, 178, 28, 278, 190, 191, 27, 192, 62, 63, 420, 421, 422, 423, 174, 175, 176, 177, 29, 179, 180, 181, 182, 184, 185, 186, 187, 69, 188, 66, 67, 64, 189, 193, 194, 195, 196, 197, 61, 65, 198, 199, 200, 201, 202, 68, 203, 204, 205, 206, 207, 208, 209, 210, 211, 212, 213, 214, 215, 46, 47, 48, 216, 217, 218, 219, 220, 221, 222, 223, 224, 225, 226, 227, 228, 229, 230, 231, 232, 233, 125, 126, 127, 128, 234, 235, 236, 237, 238, 239, 240, 241, 242, 449, 450, 451, 452, 453, 454, 488, 489, 490, 491, 492, 493, 480, 481, 482, 483, 484, 485, 486, 487, 498, 499, 500, 501, 502, 503, 504, 505, 506, 507] rfl rfl
set_option maxRecDepth 20000 in
theorem gL_law_X4_top : GoodIn wsL_law (wsV RL 87 RX4 yX4_top wsX4_top) := goodIn_app (goodIn_of _ (by decide +kernel)) ggL_law_X4_top
