set_option maxRecDepth 20000 in
theorem ggL_law_X4_thing : GoodIn wsL_law wsX4_thing := goodIn_r _ [144, 16, 145, 112, 113, 15, 114, 115, 35, 41, 449, 450, 451, 452, 453, 454, 480, 481, 482, 483, 484, 485, 486, 487] rfl rfl
set_option maxRecDepth 20000 in
theorem gL_law_X4_thing : GoodIn wsL_law (wsV RL 30 RX4 yX4_thing wsX4_thing) := goodIn_app (goodIn_of _ (by decide +kernel)) ggL_law_X4_thing
set_option maxRecDepth 20000 in
theorem ggL_law_X5_thing : GoodIn wsL_law wsX5_thing := goodIn_r _ [149, 133, 136, 137, 138, 5, 139, 140, 74, 75, 76, 77, 78, 79, 455, 456, 457, 458, 459, 460, 461, 462, 463, 464, 465, 466, 467, 468, 469, 470, 471, 472, 473, 474, 475, 476, 477, 478, 479] rfl rfl
set_option maxRecDepth 20000 in
theorem gL_law_X5_thing : GoodIn wsL_law (wsV RL 34 RX5 yX5_thing wsX5_thing) := goodIn_app (goodIn_of _ (by decide +kernel)) ggL_law_X5_thing
set_option maxRecDepth 20000 in
theorem ggL_law_L_flow : GoodIn wsL_law wsL_flow := goodIn_ca (goodIn_ca (goodIn_ca (goodIn_r _ [153, 154, 155, 156, 157, 158, 159, 2, 160, 161, 162, 163, 164, 165, 166, 16, 20, 167, 168, 169, 121, 122, 15, 123, 115, 116, 117, 118, 119, 35, 120, 170, 171, 172, 173, 98, 99, 100, 101, 102, 103, 104, 105, 174, 175, 176, 177, 178, 28, 29, 179, 180, 181, 19, 182, 183, 49, 50, 184, 185, 186, 27, 187, 69, 188, 66, 67, 63, 62, 64, 189, 190, 191, 192, 193, 194, 195, 196, 197, 61, 65, 198, 199, 200, 201, 202, 68, 203, 204, 205, 206, 207, 208, 209, 210, 211, 212, 213, 214, 215, 46, 47, 48, 216, 217, 218, 219, 220, 221, 222, 223, 224, 225, 226, 227, 228, 229, 230, 231, 232, 233, 125, 126, 127, 128, 234, 235, 236, 237, 238, 239, 240, 241, 242, 449, 450, 451, 452, 453, 454, 488, 489, 490, 491, 492, 493, 480, 481, 482, 483, 484, 485, 486, 487, 498, 499, 500, 501, 502, 503, 504, 505, 506, 507] rfl rfl) (goodIn_sub (fun _ h => List.mem_append_left _ (List.mem_append_left _ (List.mem_append_right _ h))) (by decide +kernel))) (goodIn_sub (fun _ h => List.mem_append_left _ (List.mem_append_right _ h)) (by decide +kernel))) (goodIn_sub (fun _ h => List.mem_append_right _ h) (by decide +kernel))
set_option maxRecDepth 20000 in
theorem gL_law_L_flow : GoodIn wsL_law (va_wsS RL 35 yL_flow wsL_flow) := goodIn_app (goodIn_of _ (by decide +kernel)) ggL_law_L_flow
set_option maxRecDepth 20000 in
theorem ggL_law_X5_flow : GoodIn wsL_law wsX5_flow := goodIn_r _ [246, 133, 247, 74, 134, 135, 79, 248, 249, 250, 5, 251, 140, 252, 253, 254, 255, 80, 81, 82, 83, 256, 257, 258, 259, 84, 75, 85, 89, 76, 88, 260, 261, 262, 263, 264, 265, 266, 267, 87, 268, 455, 456, 457, 458, 459, 460, 461, 462, 463, 464, 465, 466, 467, 468, 469, 470, 471, 472, 473, 474, 475, 476, 477, 478, 479] rfl rfl
set_option maxRecDepth 20000 in
theorem gL_law_X5_flow : GoodIn wsL_law (wsV RL 40 RX5 yX5_flow wsX5_flow) := goodIn_app (goodIn_of _ (by decide +kernel)) ggL_law_X5_flow
