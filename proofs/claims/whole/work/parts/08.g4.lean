set_option maxRecDepth 20000 in
theorem ggX4_init_X1_init : GoodIn wsX4_init wsX1_init := goodIn_r _ [23, 24, 2, 3, 25, 26, 27, 28, 29, 30, 31, 32, 33, 61, 62, 63, 64, 65, 66, 67, 68] (by decide +kernel) (by decide +kernel)
set_option maxRecDepth 20000 in
theorem gX4_init_X1_init_n9 : GoodIn wsX4_init (wsX1_init) := ggX4_init_X1_init
set_option maxRecDepth 20000 in
theorem ggX4_init_X0_init : GoodIn wsX4_init wsX0_init := goodIn_r _ [35, 36, 2, 3, 25, 37, 38, 27, 39, 40, 41, 75, 76, 77, 78, 79, 80] (by decide +kernel) (by decide +kernel)
set_option maxRecDepth 20000 in
theorem gX4_init_X0_init_n18 : GoodIn wsX4_init (wsX0_init) := ggX4_init_X0_init
set_option maxRecDepth 20000 in
theorem ggX4_init_X2_init : GoodIn wsX4_init wsX2_init := goodIn_r _ [43, 44, 2, 3, 25, 45, 27, 46, 47, 81, 82, 83, 84] (by decide +kernel) (by decide +kernel)
set_option maxRecDepth 20000 in
theorem gX4_init_X2_init_n25 : GoodIn wsX4_init (wsX2_init) := ggX4_init_X2_init
set_option maxRecDepth 20000 in
theorem ggX4_init_X3_init : GoodIn wsX4_init wsX3_init := goodIn_r _ [50, 51, 2, 3, 27, 52, 53, 54, 55, 56, 25, 57, 58, 59, 60, 85, 86, 87, 88, 89, 90, 91, 92, 93, 94] (by decide +kernel) (by decide +kernel)
set_option maxRecDepth 20000 in
theorem gX4_init_X3_init : GoodIn wsX4_init (wsX3_init) := ggX4_init_X3_init
set_option maxRecDepth 20000 in
theorem ggX4_lot_X4_isAmount : GoodIn wsX4_lot wsX4_isAmount := goodIn_r _ [6, 7] (by decide +kernel) (by decide +kernel)
set_option maxRecDepth 20000 in
theorem gX4_lot_X4_isAmount : GoodIn wsX4_lot (va_wsS RX4 46 yX4_isAmount wsX4_isAmount) := goodIn_app (goodIn_of _ (by decide +kernel)) ggX4_lot_X4_isAmount
set_option maxRecDepth 20000 in
theorem ggX4_lot_X4_isDay : GoodIn wsX4_lot wsX4_isDay := goodIn_r _ [10, 11] (by decide +kernel) (by decide +kernel)
set_option maxRecDepth 20000 in
theorem gX4_lot_X4_isDay : GoodIn wsX4_lot (va_wsS RX4 50 yX4_isDay wsX4_isDay) := goodIn_app (goodIn_of _ (by decide +kernel)) ggX4_lot_X4_isDay
set_option maxRecDepth 20000 in
theorem ggX4_lot_X1_addLot : GoodIn wsX4_lot wsX1_addLot := goodIn_r _ [16, 17, 18, 19, 20, 21, 22, 23, 15, 24, 25, 26, 27, 52, 53, 54, 55, 56, 57, 58, 59] (by decide +kernel) (by decide +kernel)
set_option maxRecDepth 20000 in
theorem gX4_lot_X1_addLot : GoodIn wsX4_lot (wsV RX4 53 RX1 yX1_addLot wsX1_addLot) := goodIn_app (goodIn_of _ (by decide +kernel)) ggX4_lot_X1_addLot
set_option maxRecDepth 20000 in
theorem ggX4_lot_X1_isLot : GoodIn wsX4_lot wsX1_isLot := goodIn_r _ [31, 26, 32, 33, 34, 15, 35, 25, 52, 53, 54, 55, 56, 57, 58, 59] (by decide +kernel) (by decide +kernel)
set_option maxRecDepth 20000 in
theorem gX4_lot_X1_isLot : GoodIn wsX4_lot (wsV RX4 57 RX1 yX1_isLot wsX1_isLot) := goodIn_app (goodIn_of _ (by decide +kernel)) ggX4_lot_X1_isLot
set_option maxRecDepth 20000 in
theorem ggX4_lot_X3_admit : GoodIn wsX4_lot wsX3_admit := goodIn_r _ [40, 41, 42, 43, 44, 45, 60, 61, 62, 63, 64, 65, 66, 67, 68, 69, 52, 53, 54, 55, 56, 57, 58, 59] (by decide +kernel) (by decide +kernel)
set_option maxRecDepth 20000 in
theorem gX4_lot_X3_admit : GoodIn wsX4_lot (wsV RX4 61 RX3 yX3_admit wsX3_admit) := goodIn_app (goodIn_of _ (by decide +kernel)) ggX4_lot_X3_admit
set_option maxRecDepth 20000 in
theorem ggX4_thing_X1_add : GoodIn wsX4_thing wsX1_add := goodIn_r _ [6, 7, 8, 9, 16, 17, 18, 19, 20, 21, 22, 23] (by decide +kernel) (by decide +kernel)
set_option maxRecDepth 20000 in
theorem gX4_thing_X1_add : GoodIn wsX4_thing (wsV RX4 65 RX1 yX1_add wsX1_add) := goodIn_app (goodIn_of _ (by decide +kernel)) ggX4_thing_X1_add
set_option maxRecDepth 20000 in
theorem ggX4_left_X1_has : GoodIn wsX4_left wsX1_has := goodIn_r _ [8, 9, 23, 24, 25, 26, 27, 28, 29, 30] (by decide +kernel) (by decide +kernel)
set_option maxRecDepth 20000 in
theorem gX4_left_X1_has : GoodIn wsX4_left (wsV RX4 69 RX1 yX1_has wsX1_has) := goodIn_app (goodIn_of _ (by decide +kernel)) ggX4_left_X1_has
set_option maxRecDepth 20000 in
theorem ggX4_left_X3_unitsIn : GoodIn wsX4_left wsX3_unitsIn := goodIn_r _ [14, 15, 16, 31, 32, 33, 34, 35, 36, 37, 38, 39, 40] (by decide +kernel) (by decide +kernel)
set_option maxRecDepth 20000 in
theorem gX4_left_X3_unitsIn : GoodIn wsX4_left (wsV RX4 110 RX3 yX3_unitsIn wsX3_unitsIn) := goodIn_app (goodIn_of _ (by decide +kernel)) ggX4_left_X3_unitsIn
set_option maxRecDepth 20000 in
theorem ggX4_share_X1_has : GoodIn wsX4_share wsX1_has := goodIn_r _ [8, 9, 38, 39, 40, 41, 42, 43, 44, 45] (by decide +kernel) (by decide +kernel)
set_option maxRecDepth 20000 in
theorem gX4_share_X1_has : GoodIn wsX4_share (wsV RX4 69 RX1 yX1_has wsX1_has) := goodIn_app (goodIn_of _ (by decide +kernel)) ggX4_share_X1_has
set_option maxRecDepth 20000 in
theorem ggX4_share_X1_isLot : GoodIn wsX4_share wsX1_isLot := goodIn_r _ [13, 14, 15, 5, 6, 7, 8, 9, 38, 39, 40, 41, 42, 43, 44, 45] (by decide +kernel) (by decide +kernel)
set_option maxRecDepth 20000 in
theorem gX4_share_X1_isLot : GoodIn wsX4_share (wsV RX4 57 RX1 yX1_isLot wsX1_isLot) := goodIn_app (goodIn_of _ (by decide +kernel)) ggX4_share_X1_isLot
set_option maxRecDepth 20000 in
theorem ggX4_share_X3_unitsOf : GoodIn wsX4_share wsX3_unitsOf := goodIn_r _ [20, 21, 46, 47, 48, 49, 50, 51, 52, 53, 54, 55] (by decide +kernel) (by decide +kernel)
set_option maxRecDepth 20000 in
theorem gX4_share_X3_unitsOf : GoodIn wsX4_share (wsV RX4 116 RX3 yX3_unitsOf wsX3_unitsOf) := goodIn_app (goodIn_of _ (by decide +kernel)) ggX4_share_X3_unitsOf
set_option maxRecDepth 20000 in
theorem ggX4_share_X3_unitsIn : GoodIn wsX4_share wsX3_unitsIn := goodIn_r _ [25, 26, 27, 46, 47, 48, 49, 50, 51, 52, 53, 54, 55] (by decide +kernel) (by decide +kernel)
set_option maxRecDepth 20000 in
theorem gX4_share_X3_unitsIn : GoodIn wsX4_share (wsV RX4 110 RX3 yX3_unitsIn wsX3_unitsIn) := goodIn_app (goodIn_of _ (by decide +kernel)) ggX4_share_X3_unitsIn
set_option maxRecDepth 20000 in
theorem ggX4_share_X4_greatestDivisor : GoodIn wsX4_share wsX4_greatestDivisor := goodIn_r _ [31] (by decide +kernel) (by decide +kernel)
set_option maxRecDepth 20000 in
theorem gX4_share_X4_greatestDivisor : GoodIn wsX4_share (va_wsS RX4 120 yX4_greatestDivisor wsX4_greatestDivisor) := goodIn_app (goodIn_of _ (by decide +kernel)) ggX4_share_X4_greatestDivisor
set_option maxRecDepth 20000 in
theorem ggX4_back_X1_has : GoodIn wsX4_back wsX1_has := goodIn_r _ [8, 9, 22, 23, 24, 25, 26, 27, 28, 29] (by decide +kernel) (by decide +kernel)
set_option maxRecDepth 20000 in
theorem gX4_back_X1_has : GoodIn wsX4_back (wsV RX4 69 RX1 yX1_has wsX1_has) := goodIn_app (goodIn_of _ (by decide +kernel)) ggX4_back_X1_has
set_option maxRecDepth 20000 in
theorem ggX4_back_X3_hasReached : GoodIn wsX4_back wsX3_hasReached := goodIn_r _ [14, 15, 30, 31, 32, 33, 34, 35, 36, 37, 38, 39] (by decide +kernel) (by decide +kernel)
set_option maxRecDepth 20000 in
theorem gX4_back_X3_hasReached : GoodIn wsX4_back (wsV RX4 125 RX3 yX3_hasReached wsX3_hasReached) := goodIn_app (goodIn_of _ (by decide +kernel)) ggX4_back_X3_hasReached
set_option maxRecDepth 20000 in
theorem ggX4_forward_X1_isLot : GoodIn wsX4_forward wsX1_isLot := goodIn_r _ [8, 9, 10, 11, 12, 7, 13, 14, 31, 32, 33, 34, 35, 36, 37, 38] (by decide +kernel) (by decide +kernel)
set_option maxRecDepth 20000 in
theorem gX4_forward_X1_isLot : GoodIn wsX4_forward (wsV RX4 57 RX1 yX1_isLot wsX1_isLot) := goodIn_app (goodIn_of _ (by decide +kernel)) ggX4_forward_X1_isLot
set_option maxRecDepth 20000 in
theorem ggX4_forward_X1_canTake : GoodIn wsX4_forward wsX1_canTake := goodIn_r _ [18, 9, 10, 11, 12, 7, 13, 14, 31, 32, 33, 34, 35, 36, 37, 38] (by decide +kernel) (by decide +kernel)
set_option maxRecDepth 20000 in
theorem gX4_forward_X1_canTake : GoodIn wsX4_forward (wsV RX4 129 RX1 yX1_canTake wsX1_canTake) := goodIn_app (goodIn_of _ (by decide +kernel)) ggX4_forward_X1_canTake
set_option maxRecDepth 20000 in
theorem ggX4_forward_X3_hasReached : GoodIn wsX4_forward wsX3_hasReached := goodIn_r _ [23, 24, 39, 40, 41, 42, 43, 44, 45, 46, 47, 48] (by decide +kernel) (by decide +kernel)
set_option maxRecDepth 20000 in
theorem gX4_forward_X3_hasReached : GoodIn wsX4_forward (wsV RX4 125 RX3 yX3_hasReached wsX3_hasReached) := goodIn_app (goodIn_of _ (by decide +kernel)) ggX4_forward_X3_hasReached
set_option maxRecDepth 20000 in
theorem ggX4_place_X1_canTake : GoodIn wsX4_place wsX1_canTake := goodIn_r _ [7, 8, 9, 10, 11, 6, 12, 13, 20, 21, 22, 23, 24, 25, 26, 27] (by decide +kernel) (by decide +kernel)
set_option maxRecDepth 20000 in
theorem gX4_place_X1_canTake : GoodIn wsX4_place (wsV RX4 129 RX1 yX1_canTake wsX1_canTake) := goodIn_app (goodIn_of _ (by decide +kernel)) ggX4_place_X1_canTake
set_option maxRecDepth 20000 in
theorem ggX4_recall_X1_isLot : GoodIn wsX4_recall wsX1_isLot := goodIn_r _ [11, 12, 13, 14, 15, 10, 16, 17, 56, 57, 58, 59, 60, 61, 62, 63] (by decide +kernel) (by decide +kernel)
set_option maxRecDepth 20000 in
theorem gX4_recall_X1_isLot : GoodIn wsX4_recall (wsV RX4 57 RX1 yX1_isLot wsX1_isLot) := goodIn_app (goodIn_of _ (by decide +kernel)) ggX4_recall_X1_isLot
set_option maxRecDepth 20000 in
theorem ggX4_recall_X1_canTake : GoodIn wsX4_recall wsX1_canTake := goodIn_r _ [21, 12, 13, 14, 15, 10, 16, 17, 56, 57, 58, 59, 60, 61, 62, 63] (by decide +kernel) (by decide +kernel)
set_option maxRecDepth 20000 in
theorem gX4_recall_X1_canTake : GoodIn wsX4_recall (wsV RX4 129 RX1 yX1_canTake wsX1_canTake) := goodIn_app (goodIn_of _ (by decide +kernel)) ggX4_recall_X1_canTake
set_option maxRecDepth 20000 in
theorem ggX4_recall_X3_hasReached : GoodIn wsX4_recall wsX3_hasReached := goodIn_r _ [26, 27, 64, 65, 66, 67, 68, 69, 70, 71, 72, 73] (by decide +kernel) (by decide +kernel)
set_option maxRecDepth 20000 in
theorem gX4_recall_X3_hasReached : GoodIn wsX4_recall (wsV RX4 125 RX3 yX3_hasReached wsX3_hasReached) := goodIn_app (goodIn_of _ (by decide +kernel)) ggX4_recall_X3_hasReached
set_option maxRecDepth 20000 in
theorem ggX4_recall_X3_unitsOf : GoodIn wsX4_recall wsX3_unitsOf := goodIn_r _ [31, 32, 64, 65, 66, 67, 68, 69, 70, 71, 72, 73] (by decide +kernel) (by decide +kernel)
set_option maxRecDepth 20000 in
theorem gX4_recall_X3_unitsOf : GoodIn wsX4_recall (wsV RX4 116 RX3 yX3_unitsOf wsX3_unitsOf) := goodIn_app (goodIn_of _ (by decide +kernel)) ggX4_recall_X3_unitsOf
set_option maxRecDepth 20000 in
theorem ggX4_recall_X2_enter : GoodIn wsX4_recall wsX2_enter := goodIn_r _ [37, 38, 39, 40, 41, 42, 43, 44, 36, 45, 52, 53, 54, 55] (by decide +kernel) (by decide +kernel)
set_option maxRecDepth 20000 in
theorem gX4_recall_X2_enter : GoodIn wsX4_recall (wsV RX4 137 RX2 yX2_enter wsX2_enter) := goodIn_app (goodIn_of _ (by decide +kernel)) ggX4_recall_X2_enter
set_option maxRecDepth 20000 in
theorem ggX4_hold_X1_has : GoodIn wsX4_hold wsX1_has := goodIn_r _ [7, 8, 15, 16, 17, 18, 19, 20, 21, 22] (by decide +kernel) (by decide +kernel)
set_option maxRecDepth 20000 in
theorem gX4_hold_X1_has : GoodIn wsX4_hold (wsV RX4 69 RX1 yX1_has wsX1_has) := goodIn_app (goodIn_of _ (by decide +kernel)) ggX4_hold_X1_has
set_option maxRecDepth 20000 in
theorem ggX4_correct_X4_isDay : GoodIn wsX4_correct wsX4_isDay := goodIn_r _ [14, 15] (by decide +kernel) (by decide +kernel)
set_option maxRecDepth 20000 in
theorem gX4_correct_X4_isDay : GoodIn wsX4_correct (va_wsS RX4 50 yX4_isDay wsX4_isDay) := goodIn_app (goodIn_of _ (by decide +kernel)) ggX4_correct_X4_isDay
set_option maxRecDepth 20000 in
theorem ggX4_correct_X3_replay : GoodIn wsX4_correct wsX3_replay := goodIn_r _ [20, 21, 22, 23, 24, 25, 26, 27, 28, 19, 29, 30, 31, 32, 33, 34, 35, 36, 37, 38, 39, 40, 41, 42, 43, 44, 45, 46, 47, 48, 49, 50, 51, 52, 53, 54, 55, 56, 57, 58, 59, 60, 61, 62, 63, 64, 65, 66, 67, 68, 69, 70, 71, 72, 73, 74, 75, 76, 77, 78, 79, 80, 81, 82, 83, 84, 85, 86, 87, 88, 107, 108, 109, 110, 111, 112, 121, 122, 123, 124, 125, 126, 127, 128, 129, 130, 113, 114, 115, 116, 117, 118, 119, 120] (by decide +kernel) (by decide +kernel)
set_option maxRecDepth 20000 in
theorem gX4_correct_X3_replay : GoodIn wsX4_correct (wsV RX4 164 RX3 yX3_replay wsX3_replay) := goodIn_app (goodIn_of _ (by decide +kernel)) ggX4_correct_X3_replay
set_option maxRecDepth 20000 in
theorem ggX4_correct_X4_takeTrial : GoodIn wsX4_correct wsX4_takeTrial := goodIn_r _ [92, 10, 9, 101, 102, 103, 104, 105, 106] (by decide +kernel) (by decide +kernel)
set_option maxRecDepth 20000 in
theorem gX4_correct_X4_takeTrial : GoodIn wsX4_correct (wsV RX4 168 RX4 yX4_takeTrial wsX4_takeTrial) := goodIn_app (goodIn_of _ (by decide +kernel)) ggX4_correct_X4_takeTrial
set_option maxRecDepth 20000 in
theorem ggX4_correct_X3_countOtherNodes : GoodIn wsX4_correct wsX3_countOtherNodes := goodIn_r _ [96, 35, 36, 97, 98, 99, 19, 100, 77, 78, 79, 80, 30, 121, 122, 123, 124, 125, 126, 127, 128, 129, 130, 113, 114, 115, 116, 117, 118, 119, 120] (by decide +kernel) (by decide +kernel)
set_option maxRecDepth 20000 in
theorem gX4_correct_X3_countOtherNodes : GoodIn wsX4_correct (wsV RX4 171 RX3 yX3_countOtherNodes wsX3_countOtherNodes) := goodIn_app (goodIn_of _ (by decide +kernel)) ggX4_correct_X3_countOtherNodes
set_option maxRecDepth 20000 in
theorem ggX4_top_X1_canTake : GoodIn wsX4_top wsX1_canTake := goodIn_r _ [8, 9, 10, 11, 12, 7, 13, 14, 155, 156, 157, 158, 159, 160, 161, 162] (by decide +kernel) (by decide +kernel)
set_option maxRecDepth 20000 in
theorem gX4_top_X1_canTake : GoodIn wsX4_top (wsV RX4 129 RX1 yX1_canTake wsX1_canTake) := goodIn_app (goodIn_of _ (by decide +kernel)) ggX4_top_X1_canTake
set_option maxRecDepth 20000 in
theorem ggX4_top_X1_isDrain : GoodIn wsX4_top wsX1_isDrain := goodIn_r _ [18, 9, 10, 11, 12, 7, 13, 14, 155, 156, 157, 158, 159, 160, 161, 162] (by decide +kernel) (by decide +kernel)
set_option maxRecDepth 20000 in
theorem gX4_top_X1_isDrain : GoodIn wsX4_top (wsV RX4 85 RX1 yX1_isDrain wsX1_isDrain) := goodIn_app (goodIn_of _ (by decide +kernel)) ggX4_top_X1_isDrain
set_option maxRecDepth 20000 in
theorem ggX4_top_X4_isAmount : GoodIn wsX4_top wsX4_isAmount := goodIn_r _ [22, 23] (by decide +kernel) (by decide +kernel)
set_option maxRecDepth 20000 in
theorem gX4_top_X4_isAmount : GoodIn wsX4_top (va_wsS RX4 46 yX4_isAmount wsX4_isAmount) := goodIn_app (goodIn_of _ (by decide +kernel)) ggX4_top_X4_isAmount
set_option maxRecDepth 20000 in
theorem ggX4_top_X1_isLot : GoodIn wsX4_top wsX1_isLot := goodIn_r _ [27, 9, 10, 11, 12, 7, 13, 14, 155, 156, 157, 158, 159, 160, 161, 162] (by decide +kernel) (by decide +kernel)
set_option maxRecDepth 20000 in
theorem gX4_top_X1_isLot : GoodIn wsX4_top (wsV RX4 57 RX1 yX1_isLot wsX1_isLot) := goodIn_app (goodIn_of _ (by decide +kernel)) ggX4_top_X1_isLot
set_option maxRecDepth 20000 in
theorem ggX4_top_X0_greatestDay : GoodIn wsX4_top wsX0_greatestDay := goodIn_r _ [32, 33, 34, 35, 149, 150, 151, 152, 153, 154] (by decide +kernel) (by decide +kernel)
set_option maxRecDepth 20000 in
theorem gX4_top_X0_greatestDay : GoodIn wsX4_top (wsV RX4 175 RX0 yX0_greatestDay wsX0_greatestDay) := goodIn_app (goodIn_of _ (by decide +kernel)) ggX4_top_X0_greatestDay
set_option maxRecDepth 20000 in
theorem ggX4_top_X4_countTopFlows : GoodIn wsX4_top wsX4_countTopFlows := goodIn_r _ [39, 1, 40, 41, 42, 43, 44, 45, 46, 47, 48, 21, 49, 50, 51, 52, 53, 54, 55, 56, 57, 58, 59, 143, 144, 145, 146, 147, 148, 155, 156, 157, 158, 159, 160, 161, 162, 163, 164, 165, 166, 167, 168, 169, 170, 171, 172] (by decide +kernel) (by decide +kernel)
set_option maxRecDepth 20000 in
theorem gX4_top_X4_countTopFlows : GoodIn wsX4_top (wsV RX4 179 RX4 yX4_countTopFlows wsX4_countTopFlows) := goodIn_app (goodIn_of _ (by decide +kernel)) ggX4_top_X4_countTopFlows
set_option maxRecDepth 20000 in
theorem ggX4_top_X4_tellTopFlows : GoodIn wsX4_top wsX4_tellTopFlows := goodIn_r _ [63, 1, 40, 41, 42, 43, 44, 45, 46, 47, 48, 21, 49, 50, 51, 52, 53, 54, 55, 56, 57, 58, 59, 64, 65, 66, 67, 2, 3, 68, 24, 25, 26, 7, 27, 9, 10, 11, 12, 13, 14, 69, 70, 71, 31, 72, 33, 34, 35, 73, 74, 75, 76, 77, 78, 79, 80, 81, 82, 83, 84, 85, 86, 87, 88, 89, 90, 91, 92, 93, 94, 95, 96, 97, 98, 99, 100, 101, 102, 103, 104, 16, 17, 18, 105, 106, 107, 108, 109, 110, 111, 112, 113, 114, 115, 116, 117, 118, 119, 120, 121, 122, 123, 124, 125, 126, 127, 128, 129, 130, 131, 132, 133, 134, 135, 136, 137, 138, 139, 140, 141, 142, 143, 144, 145, 146, 147, 148, 155, 156, 157, 158, 159, 160, 161, 162, 163, 164, 165, 166, 167, 168, 169, 170, 171, 172, 149, 150, 151, 152, 153, 154] (by decide +kernel) (by decide +kernel)
set_option maxRecDepth 20000 in
theorem gX4_top_X4_tellTopFlows : GoodIn wsX4_top (wsV RX4 183 RX4 yX4_tellTopFlows wsX4_tellTopFlows) := goodIn_app (goodIn_of _ (by decide +kernel)) ggX4_top_X4_tellTopFlows
set_option maxRecDepth 20000 in
theorem ggX4_whole_X1_has : GoodIn wsX4_whole wsX1_has := goodIn_r _ [7, 8, 33, 34, 35, 36, 37, 38, 39, 40] (by decide +kernel) (by decide +kernel)
set_option maxRecDepth 20000 in
theorem gX4_whole_X1_has : GoodIn wsX4_whole (wsV RX4 69 RX1 yX1_has wsX1_has) := goodIn_app (goodIn_of _ (by decide +kernel)) ggX4_whole_X1_has
set_option maxRecDepth 20000 in
theorem ggX4_whole_X3_sumOfLots : GoodIn wsX4_whole wsX3_sumOfLots := goodIn_r _ [13, 14, 15, 16, 17, 18, 12, 19, 20, 41, 42, 43, 44, 45, 46, 47, 48, 49, 50, 33, 34, 35, 36, 37, 38, 39, 40] (by decide +kernel) (by decide +kernel)
set_option maxRecDepth 20000 in
theorem gX4_whole_X3_sumOfLots : GoodIn wsX4_whole (wsV RX4 187 RX3 yX3_sumOfLots wsX3_sumOfLots) := goodIn_app (goodIn_of _ (by decide +kernel)) ggX4_whole_X3_sumOfLots
set_option maxRecDepth 20000 in
theorem ggX4_whole_X3_unitsIn : GoodIn wsX4_whole wsX3_unitsIn := goodIn_r _ [24, 25, 26, 41, 42, 43, 44, 45, 46, 47, 48, 49, 50] (by decide +kernel) (by decide +kernel)
set_option maxRecDepth 20000 in
theorem gX4_whole_X3_unitsIn : GoodIn wsX4_whole (wsV RX4 110 RX3 yX3_unitsIn wsX3_unitsIn) := goodIn_app (goodIn_of _ (by decide +kernel)) ggX4_whole_X3_unitsIn
set_option maxRecDepth 20000 in
theorem ggX4_loss_X1_has : GoodIn wsX4_loss wsX1_has := goodIn_r _ [9, 10, 27, 28, 29, 30, 31, 32, 33, 34] (by decide +kernel) (by decide +kernel)
set_option maxRecDepth 20000 in
theorem gX4_loss_X1_has : GoodIn wsX4_loss (wsV RX4 69 RX1 yX1_has wsX1_has) := goodIn_app (goodIn_of _ (by decide +kernel)) ggX4_loss_X1_has
set_option maxRecDepth 20000 in
theorem ggX4_tell_X1_isLot : GoodIn wsX4_tell wsX1_isLot := goodIn_r _ [11, 12, 13, 14, 15, 10, 16, 17, 112, 113, 114, 115, 116, 117, 118, 119] (by decide +kernel) (by decide +kernel)
set_option maxRecDepth 20000 in
theorem gX4_tell_X1_isLot : GoodIn wsX4_tell (wsV RX4 57 RX1 yX1_isLot wsX1_isLot) := goodIn_app (goodIn_of _ (by decide +kernel)) ggX4_tell_X1_isLot
set_option maxRecDepth 20000 in
theorem ggX4_tell_X0_turnFor : GoodIn wsX4_tell wsX0_turnFor := goodIn_r _ [22, 23, 24, 25, 120, 121, 122, 123, 124, 125] (by decide +kernel) (by decide +kernel)
set_option maxRecDepth 20000 in
theorem gX4_tell_X0_turnFor : GoodIn wsX4_tell (wsV RX4 198 RX0 yX0_turnFor wsX0_turnFor) := goodIn_app (goodIn_of _ (by decide +kernel)) ggX4_tell_X0_turnFor
set_option maxRecDepth 20000 in
theorem ggX4_tell_X3_move : GoodIn wsX4_tell wsX3_move := goodIn_r _ [30, 31, 32, 33, 34, 35, 36, 37, 38, 39, 40, 29, 41, 42, 8, 9, 10, 11, 12, 13, 14, 15, 16, 17, 43, 44, 45, 46, 47, 48, 49, 50, 51, 52, 53, 54, 55, 56, 57, 58, 59, 60, 61, 62, 63, 64, 65, 66, 126, 127, 128, 129, 130, 131, 132, 133, 134, 135, 112, 113, 114, 115, 116, 117, 118, 119] (by decide +kernel) (by decide +kernel)
set_option maxRecDepth 20000 in
theorem gX4_tell_X3_move : GoodIn wsX4_tell (wsV RX4 202 RX3 yX3_move wsX3_move) := goodIn_app (goodIn_of _ (by decide +kernel)) ggX4_tell_X3_move
set_option maxRecDepth 20000 in
theorem ggX4_tell_X0_insert : GoodIn wsX4_tell wsX0_insert := goodIn_r _ [70, 23, 71, 72, 73, 24, 25, 120, 121, 122, 123, 124, 125] (by decide +kernel) (by decide +kernel)
set_option maxRecDepth 20000 in
theorem gX4_tell_X0_insert : GoodIn wsX4_tell (wsV RX4 206 RX0 yX0_insert wsX0_insert) := goodIn_app (goodIn_of _ (by decide +kernel)) ggX4_tell_X0_insert
set_option maxRecDepth 20000 in
theorem ggX4_tell_X3_replay : GoodIn wsX4_tell wsX3_replay := goodIn_r _ [77, 78, 79, 80, 81, 82, 83, 84, 85, 29, 86, 47, 36, 35, 37, 48, 31, 53, 87, 88, 89, 90, 42, 8, 9, 10, 11, 12, 13, 14, 15, 16, 17, 91, 92, 93, 94, 95, 96, 27, 28, 30, 32, 33, 34, 38, 39, 40, 41, 43, 44, 45, 46, 49, 50, 51, 52, 54, 55, 56, 57, 58, 59, 60, 61, 62, 63, 64, 65, 66, 120, 121, 122, 123, 124, 125, 126, 127, 128, 129, 130, 131, 132, 133, 134, 135, 112, 113, 114, 115, 116, 117, 118, 119] (by decide +kernel) (by decide +kernel)
set_option maxRecDepth 20000 in
theorem gX4_tell_X3_replay : GoodIn wsX4_tell (wsV RX4 164 RX3 yX3_replay wsX3_replay) := goodIn_app (goodIn_of _ (by decide +kernel)) ggX4_tell_X3_replay
set_option maxRecDepth 20000 in
theorem ggX4_tell_X0_removeNewest : GoodIn wsX4_tell wsX0_removeNewest := goodIn_r _ [100, 23, 25, 120, 121, 122, 123, 124, 125] (by decide +kernel) (by decide +kernel)
set_option maxRecDepth 20000 in
theorem gX4_tell_X0_removeNewest : GoodIn wsX4_tell (wsV RX4 210 RX0 yX0_removeNewest wsX0_removeNewest) := goodIn_app (goodIn_of _ (by decide +kernel)) ggX4_tell_X0_removeNewest
set_option maxRecDepth 20000 in
theorem ggX4_tell_X4_takeTrial : GoodIn wsX4_tell wsX4_takeTrial := goodIn_r _ [105, 5, 6, 106, 107, 108, 109, 110, 111] (by decide +kernel) (by decide +kernel)
set_option maxRecDepth 20000 in
theorem gX4_tell_X4_takeTrial : GoodIn wsX4_tell (wsV RX4 168 RX4 yX4_takeTrial wsX4_takeTrial) := goodIn_app (goodIn_of _ (by decide +kernel)) ggX4_tell_X4_takeTrial
set_option maxRecDepth 20000 in
theorem ggX4_canGive_X3_unitsIn : GoodIn wsX4_canGive wsX3_unitsIn := goodIn_r _ [9, 10, 11, 26, 27, 28, 29, 30, 31, 32, 33, 34, 35] (by decide +kernel) (by decide +kernel)
set_option maxRecDepth 20000 in
theorem gX4_canGive_X3_unitsIn : GoodIn wsX4_canGive (wsV RX4 110 RX3 yX3_unitsIn wsX3_unitsIn) := goodIn_app (goodIn_of _ (by decide +kernel)) ggX4_canGive_X3_unitsIn
set_option maxRecDepth 20000 in
theorem ggX4_countTopFlows_X4_canGive : GoodIn wsX4_countTopFlows wsX4_canGive := goodIn_r _ [12, 1, 13, 14, 15, 16, 17, 18, 19, 20, 21, 22, 23, 24, 25, 26, 27, 28, 29, 30, 31, 32, 33, 34, 35, 36, 37, 38, 39, 40, 41, 42, 43, 44, 45, 46] (by decide +kernel) (by decide +kernel)
set_option maxRecDepth 20000 in
theorem gX4_countTopFlows_X4_canGive : GoodIn wsX4_countTopFlows (wsV RX4 219 RX4 yX4_canGive wsX4_canGive) := goodIn_app (goodIn_of _ (by decide +kernel)) ggX4_countTopFlows_X4_canGive
set_option maxRecDepth 20000 in
theorem ggX4_tellTopFlows_X4_canGive : GoodIn wsX4_tellTopFlows wsX4_canGive := goodIn_r _ [12, 1, 13, 14, 15, 16, 17, 18, 19, 20, 21, 22, 122, 123, 124, 125, 126, 127, 128, 129, 130, 131, 132, 133, 134, 135, 136, 137, 138, 139, 140, 141, 142, 143, 144, 145] (by decide +kernel) (by decide +kernel)
set_option maxRecDepth 20000 in
theorem gX4_tellTopFlows_X4_canGive : GoodIn wsX4_tellTopFlows (wsV RX4 219 RX4 yX4_canGive wsX4_canGive) := goodIn_app (goodIn_of _ (by decide +kernel)) ggX4_tellTopFlows_X4_canGive
set_option maxRecDepth 20000 in
theorem ggX4_tellTopFlows_X4_tell : GoodIn wsX4_tellTopFlows wsX4_tell := goodIn_r _ [26, 1, 14, 27, 28, 15, 29, 30, 31, 32, 33, 34, 35, 36, 37, 38, 39, 40, 41, 42, 43, 44, 45, 46, 47, 48, 49, 50, 51, 19, 52, 53, 54, 55, 56, 22, 21, 57, 58, 17, 18, 20, 59, 60, 61, 62, 63, 64, 65, 66, 67, 68, 69, 70, 71, 72, 73, 74, 75, 76, 77, 78, 79, 80, 81, 82, 83, 84, 85, 86, 87, 88, 89, 90, 91, 92, 93, 94, 95, 96, 97, 98, 99, 100, 101, 102, 103, 104, 105, 106, 107, 108, 109, 110, 111, 112, 113, 114, 115, 116, 117, 118, 119, 120, 11, 121, 122, 123, 124, 125, 126, 127, 128, 129, 130, 131, 132, 133, 134, 135, 146, 147, 148, 149, 150, 151, 136, 137, 138, 139, 140, 141, 142, 143, 144, 145] (by decide +kernel) (by decide +kernel)
set_option maxRecDepth 20000 in
theorem gX4_tellTopFlows_X4_tell : GoodIn wsX4_tellTopFlows (wsV RX4 104 RX4 yX4_tell wsX4_tell) := goodIn_app (goodIn_of _ (by decide +kernel)) ggX4_tellTopFlows_X4_tell
