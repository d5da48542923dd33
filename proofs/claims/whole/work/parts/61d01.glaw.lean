set_option maxRecDepth 20000 in
theorem ggL_law_X4_thing : GoodIn wsL_law wsX4_thing := goodIn_r _ [143, 16, 144, 111, 112, 15, 113, 114, 35, 41, 443, 444, 445, 446, 447, 448, 474, 475, 476, 477, 478, 479, 480, 481] rfl rfl
set_option maxRecDepth 20000 in
theorem gL_law_X4_thing : GoodIn wsL_law (wsV RL 30 RX4 yX4_thing wsX4_thing) := goodIn_app (goodIn_of _ (by decide +kernel)) ggL_law_X4_thing
set_option maxRecDepth 20000 in
theorem ggL_law_X5_thing : GoodIn wsL_law wsX5_thing := goodIn_r _ [148, 132, 135, 136, 137, 5, 138, 139, 73, 74, 75, 76, 77, 78, 449, 450, 451, 452, 453, 454, 455, 456, 457, 458, 459, 460, 461, 462, 463, 464, 465, 466, 467, 468, 469, 470, 471, 472, 473] rfl rfl
set_option maxRecDepth 20000 in
theorem gL_law_X5_thing : GoodIn wsL_law (wsV RL 34 RX5 yX5_thing wsX5_thing) := goodIn_app (goodIn_of _ (by decide +kernel)) ggL_law_X5_thing
set_option maxRecDepth 20000 in
theorem ggL_law_L_flow : GoodIn wsL_law wsL_flow := goodIn_ca (goodIn_ca (goodIn_ca (goodIn_r _ [152, 153, 154, 155, 156, 157, 158, 2, 159, 160, 161, 162, 163, 164, 165, 16, 20, 166, 167, 168, 125, 126, 15, 127, 114, 169, 121, 122, 123, 35, 124, 170, 171, 172, 173, 97, 98, 99, 100, 101, 102, 103, 104, 174, 175, 176, 177, 178, 28, 29, 179, 180, 181, 19, 182, 183, 49, 50, 184, 185, 186, 27, 187, 68, 188, 66, 61, 65, 63, 62, 64, 189, 190, 191, 192, 193, 194, 195, 196, 67, 197, 198, 199, 200, 201, 202, 203, 204, 205, 206, 207, 208, 209, 46, 47, 48, 210, 211, 212, 213, 214, 215, 216, 217, 218, 219, 220, 221, 222, 223, 224, 225, 226, 227, 116, 117, 118, 119, 120, 228, 229, 230, 231, 232, 233, 234, 235, 236, 443, 444, 445, 446, 447, 448, 482, 483, 484, 485, 486, 487, 474, 475, 476, 477, 478, 479, 480, 481, 492, 493, 494, 495, 496, 497, 498, 499] rfl rfl) (goodIn_sub (fun _ h => List.mem_append_left _ (List.mem_append_left _ (List.mem_append_right _ h))) (by decide +kernel))) (goodIn_sub (fun _ h => List.mem_append_left _ (List.mem_append_right _ h)) (by decide +kernel))) (goodIn_sub (fun _ h => List.mem_append_right _ h) (by decide +kernel))
set_option maxRecDepth 20000 in
theorem gL_law_L_flow : GoodIn wsL_law (va_wsS RL 35 yL_flow wsL_flow) := goodIn_app (goodIn_of _ (by decide +kernel)) ggL_law_L_flow
set_option maxRecDepth 20000 in
theorem ggL_law_X5_flow : GoodIn wsL_law wsX5_flow := goodIn_r _ [240, 132, 241, 73, 133, 134, 78, 242, 243, 244, 5, 245, 139, 246, 247, 248, 249, 79, 80, 81, 82, 250, 251, 252, 253, 83, 74, 84, 88, 75, 87, 254, 255, 256, 257, 258, 259, 260, 261, 86, 262, 449, 450, 451, 452, 453, 454, 455, 456, 457, 458, 459, 460, 461, 462, 463, 464, 465, 466, 467, 468, 469, 470, 471, 472, 473] rfl rfl
set_option maxRecDepth 20000 in
theorem gL_law_X5_flow : GoodIn wsL_law (wsV RL 40 RX5 yX5_flow wsX5_flow) := goodIn_app (goodIn_of _ (by decide +kernel)) ggL_law_X5_flow
