set_option maxRecDepth 20000 in
theorem ggL_law_X5_loss : GoodIn wsL_law wsX5_loss := goodIn_r _ [448, 133, 268, 247, 80, 74, 81, 82, 248, 249, 250, 5, 251, 140, 455, 456, 457, 458, 459, 460, 461, 462, 463, 464, 465, 466, 467, 468, 469, 470, 471, 472, 473, 474, 475, 476, 477, 478, 479] rfl rfl
set_option maxRecDepth 20000 in
theorem gL_law_X5_loss : GoodIn wsL_law (wsV RL 100 RX5 yX5_loss wsX5_loss) := goodIn_app (goodIn_of _ (by decide +kernel)) ggL_law_X5_loss
