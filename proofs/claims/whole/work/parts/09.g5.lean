set_option maxRecDepth 20000 in
theorem ggX5_isLot_X5_isNode : GoodIn wsX5_isLot wsX5_isNode := goodIn_r _ [6, 7, 8, 9, 10, 11, 12, 13, 14, 15, 16, 17, 18, 19, 20, 21, 22, 23, 24, 25, 26, 27, 28, 29, 30, 31, 32] (by decide +kernel) (by decide +kernel)
set_option maxRecDepth 20000 in
theorem gX5_isLot_X5_isNode : GoodIn wsX5_isLot (wsV RX5 79 RX5 yX5_isNode wsX5_isNode) := goodIn_app (goodIn_of _ (by decide +kernel)) ggX5_isLot_X5_isNode
set_option maxRecDepth 20000 in
theorem ggX5_lot_X5_make : GoodIn wsX5_lot wsX5_make := goodIn_r _ [8, 9, 10, 11, 12, 13, 14, 15, 16, 17, 18, 19, 20, 21, 22, 23, 24, 25, 26, 27, 28, 29, 30, 31, 32, 33, 34, 35, 36, 37, 38, 39, 40] (by decide +kernel) (by decide +kernel)
set_option maxRecDepth 20000 in
theorem gX5_lot_X5_make : GoodIn wsX5_lot (wsV RX5 87 RX5 yX5_make wsX5_make) := goodIn_app (goodIn_of _ (by decide +kernel)) ggX5_lot_X5_make
set_option maxRecDepth 20000 in
theorem ggX5_thing_X5_make : GoodIn wsX5_thing wsX5_make := goodIn_r _ [6, 7, 8, 9, 10, 11, 12, 13, 14, 15, 16, 17, 18, 19, 20, 21, 22, 23, 24, 25, 26, 27, 28, 29, 30, 31, 32, 33, 34, 35, 36, 37, 38] (by decide +kernel) (by decide +kernel)
set_option maxRecDepth 20000 in
theorem gX5_thing_X5_make : GoodIn wsX5_thing (wsV RX5 87 RX5 yX5_make wsX5_make) := goodIn_app (goodIn_of _ (by decide +kernel)) ggX5_thing_X5_make
set_option maxRecDepth 20000 in
theorem ggX5_walk_X5_sum : GoodIn wsX5_walk wsX5_sum := goodIn_r _ [18, 1, 3, 25, 26, 27, 28, 29, 30, 31, 32, 33, 34, 35, 36, 37, 38, 39, 40, 41, 42, 43, 44, 45, 46, 47, 48, 49] (by decide +kernel) (by decide +kernel)
set_option maxRecDepth 20000 in
theorem gX5_walk_X5_sum : GoodIn wsX5_walk (wsV RX5 96 RX5 yX5_sum wsX5_sum) := goodIn_app (goodIn_of _ (by decide +kernel)) ggX5_walk_X5_sum
set_option maxRecDepth 20000 in
theorem ggX5_walk_X5_part : GoodIn wsX5_walk wsX5_part := goodIn_r _ [22, 1, 3, 12, 23, 24, 25, 26, 27, 28, 29, 30, 31, 32, 33, 34, 35, 36, 37, 38, 39, 40, 41, 42, 43, 44, 45, 46, 47, 48, 49] (by decide +kernel) (by decide +kernel)
set_option maxRecDepth 20000 in
theorem gX5_walk_X5_part : GoodIn wsX5_walk (wsV RX5 100 RX5 yX5_part wsX5_part) := goodIn_app (goodIn_of _ (by decide +kernel)) ggX5_walk_X5_part
set_option maxRecDepth 20000 in
theorem ggX5_flow_X5_isNode : GoodIn wsX5_flow wsX5_isNode := goodIn_r _ [11, 12, 41, 42, 43, 44, 45, 46, 47, 48, 49, 50, 51, 52, 53, 54, 55, 56, 57, 58, 59, 60, 61, 62, 63, 64, 65] (by decide +kernel) (by decide +kernel)
set_option maxRecDepth 20000 in
theorem gX5_flow_X5_isNode : GoodIn wsX5_flow (wsV RX5 79 RX5 yX5_isNode wsX5_isNode) := goodIn_app (goodIn_of _ (by decide +kernel)) ggX5_flow_X5_isNode
set_option maxRecDepth 20000 in
theorem ggX5_flow_X5_put : GoodIn wsX5_flow wsX5_put := goodIn_r _ [16, 17, 2, 18, 19, 20, 41, 42, 43, 44, 45, 46, 47, 48, 49, 50, 51, 52, 53, 54, 55, 56, 57, 58, 59, 60, 61, 62, 63, 64, 65] (by decide +kernel) (by decide +kernel)
set_option maxRecDepth 20000 in
theorem gX5_flow_X5_put : GoodIn wsX5_flow (wsV RX5 104 RX5 yX5_put wsX5_put) := goodIn_app (goodIn_of _ (by decide +kernel)) ggX5_flow_X5_put
set_option maxRecDepth 20000 in
theorem ggX5_flow_X5_walk : GoodIn wsX5_flow wsX5_walk := goodIn_r _ [24, 12, 3, 25, 26, 27, 2, 20, 28, 17, 19, 29, 30, 18, 31, 32, 33, 10, 34, 35, 36, 37, 38, 39, 40, 41, 42, 43, 44, 45, 46, 47, 48, 49, 50, 51, 52, 53, 54, 55, 56, 57, 58, 59, 60, 61, 62, 63, 64, 65] (by decide +kernel) (by decide +kernel)
set_option maxRecDepth 20000 in
theorem gX5_flow_X5_walk : GoodIn wsX5_flow (wsV RX5 108 RX5 yX5_walk wsX5_walk) := goodIn_app (goodIn_of _ (by decide +kernel)) ggX5_flow_X5_walk
set_option maxRecDepth 20000 in
theorem ggX5_left_X5_isNode : GoodIn wsX5_left wsX5_isNode := goodIn_r _ [7, 8, 34, 35, 36, 37, 38, 39, 40, 41, 42, 43, 44, 45, 46, 47, 48, 49, 50, 51, 52, 53, 54, 55, 56, 57, 58] (by decide +kernel) (by decide +kernel)
set_option maxRecDepth 20000 in
theorem gX5_left_X5_isNode : GoodIn wsX5_left (wsV RX5 79 RX5 yX5_isNode wsX5_isNode) := goodIn_app (goodIn_of _ (by decide +kernel)) ggX5_left_X5_isNode
set_option maxRecDepth 20000 in
theorem ggX5_left_X5_walk : GoodIn wsX5_left wsX5_walk := goodIn_r _ [12, 8, 13, 14, 15, 16, 17, 18, 19, 20, 21, 22, 23, 24, 25, 26, 27, 6, 28, 29, 30, 31, 32, 33, 2, 34, 35, 36, 37, 38, 39, 40, 41, 42, 43, 44, 45, 46, 47, 48, 49, 50, 51, 52, 53, 54, 55, 56, 57, 58] (by decide +kernel) (by decide +kernel)
set_option maxRecDepth 20000 in
theorem gX5_left_X5_walk : GoodIn wsX5_left (wsV RX5 108 RX5 yX5_walk wsX5_walk) := goodIn_app (goodIn_of _ (by decide +kernel)) ggX5_left_X5_walk
set_option maxRecDepth 20000 in
theorem ggX5_left_X5_sum : GoodIn wsX5_left wsX5_sum := goodIn_r _ [28, 8, 14, 34, 35, 36, 37, 38, 39, 40, 41, 42, 43, 44, 45, 46, 47, 48, 49, 50, 51, 52, 53, 54, 55, 56, 57, 58] (by decide +kernel) (by decide +kernel)
set_option maxRecDepth 20000 in
theorem gX5_left_X5_sum : GoodIn wsX5_left (wsV RX5 96 RX5 yX5_sum wsX5_sum) := goodIn_app (goodIn_of _ (by decide +kernel)) ggX5_left_X5_sum
set_option maxRecDepth 20000 in
theorem ggX5_share_X5_isNode : GoodIn wsX5_share wsX5_isNode := goodIn_r _ [8, 9, 38, 39, 40, 41, 42, 43, 44, 45, 46, 47, 48, 49, 50, 51, 52, 53, 54, 55, 56, 57, 58, 59, 60, 61, 62] (by decide +kernel) (by decide +kernel)
set_option maxRecDepth 20000 in
theorem gX5_share_X5_isNode : GoodIn wsX5_share (wsV RX5 79 RX5 yX5_isNode wsX5_isNode) := goodIn_app (goodIn_of _ (by decide +kernel)) ggX5_share_X5_isNode
set_option maxRecDepth 20000 in
theorem ggX5_share_X5_isLot : GoodIn wsX5_share wsX5_isLot := goodIn_r _ [13, 14, 4, 5, 6, 7, 8, 9, 38, 39, 40, 41, 42, 43, 44, 45, 46, 47, 48, 49, 50, 51, 52, 53, 54, 55, 56, 57, 58, 59, 60, 61, 62] (by decide +kernel) (by decide +kernel)
set_option maxRecDepth 20000 in
theorem gX5_share_X5_isLot : GoodIn wsX5_share (wsV RX5 112 RX5 yX5_isLot wsX5_isLot) := goodIn_app (goodIn_of _ (by decide +kernel)) ggX5_share_X5_isLot
set_option maxRecDepth 20000 in
theorem ggX5_share_X5_walk : GoodIn wsX5_share wsX5_walk := goodIn_r _ [18, 9, 14, 3, 19, 20, 21, 22, 23, 24, 25, 26, 27, 28, 29, 30, 31, 7, 32, 33, 34, 35, 36, 37, 2, 38, 39, 40, 41, 42, 43, 44, 45, 46, 47, 48, 49, 50, 51, 52, 53, 54, 55, 56, 57, 58, 59, 60, 61, 62] (by decide +kernel) (by decide +kernel)
set_option maxRecDepth 20000 in
theorem gX5_share_X5_walk : GoodIn wsX5_share (wsV RX5 108 RX5 yX5_walk wsX5_walk) := goodIn_app (goodIn_of _ (by decide +kernel)) ggX5_share_X5_walk
set_option maxRecDepth 20000 in
theorem ggX5_share_X5_sum : GoodIn wsX5_share wsX5_sum := goodIn_r _ [32, 9, 3, 38, 39, 40, 41, 42, 43, 44, 45, 46, 47, 48, 49, 50, 51, 52, 53, 54, 55, 56, 57, 58, 59, 60, 61, 62] (by decide +kernel) (by decide +kernel)
set_option maxRecDepth 20000 in
theorem gX5_share_X5_sum : GoodIn wsX5_share (wsV RX5 96 RX5 yX5_sum wsX5_sum) := goodIn_app (goodIn_of _ (by decide +kernel)) ggX5_share_X5_sum
set_option maxRecDepth 20000 in
theorem ggX5_back_X5_isNode : GoodIn wsX5_back wsX5_isNode := goodIn_r _ [8, 2, 34, 35, 36, 37, 38, 39, 40, 41, 42, 43, 44, 45, 46, 47, 48, 49, 50, 51, 52, 53, 54, 55, 56, 57, 58] (by decide +kernel) (by decide +kernel)
set_option maxRecDepth 20000 in
theorem gX5_back_X5_isNode : GoodIn wsX5_back (wsV RX5 79 RX5 yX5_isNode wsX5_isNode) := goodIn_app (goodIn_of _ (by decide +kernel)) ggX5_back_X5_isNode
set_option maxRecDepth 20000 in
theorem ggX5_back_X5_walk : GoodIn wsX5_back wsX5_walk := goodIn_r _ [12, 2, 13, 14, 15, 3, 16, 17, 18, 19, 20, 21, 22, 23, 24, 25, 26, 7, 27, 28, 29, 30, 31, 32, 33, 34, 35, 36, 37, 38, 39, 40, 41, 42, 43, 44, 45, 46, 47, 48, 49, 50, 51, 52, 53, 54, 55, 56, 57, 58] (by decide +kernel) (by decide +kernel)
set_option maxRecDepth 20000 in
theorem gX5_back_X5_walk : GoodIn wsX5_back (wsV RX5 108 RX5 yX5_walk wsX5_walk) := goodIn_app (goodIn_of _ (by decide +kernel)) ggX5_back_X5_walk
set_option maxRecDepth 20000 in
theorem ggX5_forward_X5_isLot : GoodIn wsX5_forward wsX5_isLot := goodIn_r _ [9, 3, 10, 11, 12, 8, 13, 2, 38, 39, 40, 41, 42, 43, 44, 45, 46, 47, 48, 49, 50, 51, 52, 53, 54, 55, 56, 57, 58, 59, 60, 61, 62] (by decide +kernel) (by decide +kernel)
set_option maxRecDepth 20000 in
theorem gX5_forward_X5_isLot : GoodIn wsX5_forward (wsV RX5 112 RX5 yX5_isLot wsX5_isLot) := goodIn_app (goodIn_of _ (by decide +kernel)) ggX5_forward_X5_isLot
set_option maxRecDepth 20000 in
theorem ggX5_forward_X5_walk : GoodIn wsX5_forward wsX5_walk := goodIn_r _ [17, 2, 3, 18, 19, 4, 20, 21, 22, 23, 24, 25, 26, 27, 28, 29, 30, 8, 31, 32, 33, 34, 35, 36, 37, 38, 39, 40, 41, 42, 43, 44, 45, 46, 47, 48, 49, 50, 51, 52, 53, 54, 55, 56, 57, 58, 59, 60, 61, 62] (by decide +kernel) (by decide +kernel)
set_option maxRecDepth 20000 in
theorem gX5_forward_X5_walk : GoodIn wsX5_forward (wsV RX5 108 RX5 yX5_walk wsX5_walk) := goodIn_app (goodIn_of _ (by decide +kernel)) ggX5_forward_X5_walk
set_option maxRecDepth 20000 in
theorem ggX5_place_X5_isNode : GoodIn wsX5_place wsX5_isNode := goodIn_r _ [9, 10, 11, 12, 13, 14, 15, 16, 17, 18, 19, 20, 21, 22, 23, 24, 25, 26, 27, 28, 29, 30, 31, 32, 33, 34, 35] (by decide +kernel) (by decide +kernel)
set_option maxRecDepth 20000 in
theorem gX5_place_X5_isNode : GoodIn wsX5_place (wsV RX5 79 RX5 yX5_isNode wsX5_isNode) := goodIn_app (goodIn_of _ (by decide +kernel)) ggX5_place_X5_isNode
set_option maxRecDepth 20000 in
theorem ggX5_recall_X5_isLot : GoodIn wsX5_recall wsX5_isLot := goodIn_r _ [18, 7, 19, 20, 21, 17, 22, 4, 46, 47, 48, 49, 50, 51, 52, 53, 54, 55, 56, 57, 58, 59, 60, 61, 62, 63, 64, 65, 66, 67, 68, 69, 70] (by decide +kernel) (by decide +kernel)
set_option maxRecDepth 20000 in
theorem gX5_recall_X5_isLot : GoodIn wsX5_recall (wsV RX5 112 RX5 yX5_isLot wsX5_isLot) := goodIn_app (goodIn_of _ (by decide +kernel)) ggX5_recall_X5_isLot
set_option maxRecDepth 20000 in
theorem ggX5_recall_X5_walk : GoodIn wsX5_recall wsX5_walk := goodIn_r _ [26, 4, 7, 13, 27, 8, 28, 29, 30, 31, 32, 33, 34, 35, 36, 37, 38, 17, 39, 40, 41, 42, 43, 44, 45, 46, 47, 48, 49, 50, 51, 52, 53, 54, 55, 56, 57, 58, 59, 60, 61, 62, 63, 64, 65, 66, 67, 68, 69, 70] (by decide +kernel) (by decide +kernel)
set_option maxRecDepth 20000 in
theorem gX5_recall_X5_walk : GoodIn wsX5_recall (wsV RX5 108 RX5 yX5_walk wsX5_walk) := goodIn_app (goodIn_of _ (by decide +kernel)) ggX5_recall_X5_walk
set_option maxRecDepth 20000 in
theorem ggX5_hold_X5_isNode : GoodIn wsX5_hold wsX5_isNode := goodIn_r _ [7, 8, 9, 10, 11, 12, 13, 14, 15, 16, 17, 18, 19, 20, 21, 22, 23, 24, 25, 26, 27, 28, 29, 30, 31, 32, 33] (by decide +kernel) (by decide +kernel)
set_option maxRecDepth 20000 in
theorem gX5_hold_X5_isNode : GoodIn wsX5_hold (wsV RX5 79 RX5 yX5_isNode wsX5_isNode) := goodIn_app (goodIn_of _ (by decide +kernel)) ggX5_hold_X5_isNode
set_option maxRecDepth 20000 in
theorem ggX5_correct_X5_walk : GoodIn wsX5_correct wsX5_walk := goodIn_r _ [20, 15, 21, 9, 22, 23, 2, 24, 25, 7, 8, 26, 27, 28, 29, 30, 31, 19, 32, 33, 34, 35, 36, 37, 38, 39, 40, 41, 42, 43, 44, 45, 46, 47, 48, 49, 50, 51, 52, 53, 54, 55, 56, 57, 58, 59, 60, 61, 62, 63] (by decide +kernel) (by decide +kernel)
set_option maxRecDepth 20000 in
theorem gX5_correct_X5_walk : GoodIn wsX5_correct (wsV RX5 108 RX5 yX5_walk wsX5_walk) := goodIn_app (goodIn_of _ (by decide +kernel)) ggX5_correct_X5_walk
set_option maxRecDepth 20000 in
theorem ggX5_top_X5_isNode : GoodIn wsX5_top wsX5_isNode := goodIn_r _ [15, 7, 44, 45, 46, 47, 48, 49, 50, 51, 52, 53, 54, 55, 56, 57, 58, 59, 60, 61, 62, 63, 64, 65, 66, 67, 68] (by decide +kernel) (by decide +kernel)
set_option maxRecDepth 20000 in
theorem gX5_top_X5_isNode : GoodIn wsX5_top (wsV RX5 79 RX5 yX5_isNode wsX5_isNode) := goodIn_app (goodIn_of _ (by decide +kernel)) ggX5_top_X5_isNode
set_option maxRecDepth 20000 in
theorem ggX5_top_X5_isLot : GoodIn wsX5_top wsX5_isLot := goodIn_r _ [19, 2, 11, 12, 13, 14, 15, 7, 44, 45, 46, 47, 48, 49, 50, 51, 52, 53, 54, 55, 56, 57, 58, 59, 60, 61, 62, 63, 64, 65, 66, 67, 68] (by decide +kernel) (by decide +kernel)
set_option maxRecDepth 20000 in
theorem gX5_top_X5_isLot : GoodIn wsX5_top (wsV RX5 112 RX5 yX5_isLot wsX5_isLot) := goodIn_app (goodIn_of _ (by decide +kernel)) ggX5_top_X5_isLot
set_option maxRecDepth 20000 in
theorem ggX5_top_X5_walk : GoodIn wsX5_top wsX5_walk := goodIn_r _ [23, 7, 2, 10, 24, 25, 4, 5, 26, 27, 28, 8, 29, 30, 31, 32, 33, 14, 34, 35, 36, 37, 38, 39, 6, 44, 45, 46, 47, 48, 49, 50, 51, 52, 53, 54, 55, 56, 57, 58, 59, 60, 61, 62, 63, 64, 65, 66, 67, 68] (by decide +kernel) (by decide +kernel)
set_option maxRecDepth 20000 in
theorem gX5_top_X5_walk : GoodIn wsX5_top (wsV RX5 108 RX5 yX5_walk wsX5_walk) := goodIn_app (goodIn_of _ (by decide +kernel)) ggX5_top_X5_walk
set_option maxRecDepth 20000 in
theorem ggX5_top_X5_put : GoodIn wsX5_top wsX5_put := goodIn_r _ [43, 27, 4, 30, 28, 5, 44, 45, 46, 47, 48, 49, 50, 51, 52, 53, 54, 55, 56, 57, 58, 59, 60, 61, 62, 63, 64, 65, 66, 67, 68] (by decide +kernel) (by decide +kernel)
set_option maxRecDepth 20000 in
theorem gX5_top_X5_put : GoodIn wsX5_top (wsV RX5 104 RX5 yX5_put wsX5_put) := goodIn_app (goodIn_of _ (by decide +kernel)) ggX5_top_X5_put
set_option maxRecDepth 20000 in
theorem ggX5_whole_X5_isNode : GoodIn wsX5_whole wsX5_isNode := goodIn_r _ [6, 7, 8, 9, 10, 11, 12, 13, 14, 15, 16, 17, 18, 19, 20, 21, 22, 23, 24, 25, 26, 27, 28, 29, 30, 31, 32] (by decide +kernel) (by decide +kernel)
set_option maxRecDepth 20000 in
theorem gX5_whole_X5_isNode : GoodIn wsX5_whole (wsV RX5 79 RX5 yX5_isNode wsX5_isNode) := goodIn_app (goodIn_of _ (by decide +kernel)) ggX5_whole_X5_isNode
set_option maxRecDepth 20000 in
theorem ggX5_loss_X5_isNode : GoodIn wsX5_loss wsX5_isNode := goodIn_r _ [12, 13, 14, 15, 16, 17, 18, 19, 20, 21, 22, 23, 24, 25, 26, 27, 28, 29, 30, 31, 32, 33, 34, 35, 36, 37, 38] (by decide +kernel) (by decide +kernel)
set_option maxRecDepth 20000 in
theorem gX5_loss_X5_isNode : GoodIn wsX5_loss (wsV RX5 79 RX5 yX5_isNode wsX5_isNode) := goodIn_app (goodIn_of _ (by decide +kernel)) ggX5_loss_X5_isNode
