set_option maxRecDepth 20000 in
theorem ggX1_isLot_X1_has : GoodIn wsX1_isLot wsX1_has := goodIn_r _ [6, 7, 8, 9, 10, 11, 12, 13, 14, 15] (by decide +kernel) (by decide +kernel)
set_option maxRecDepth 20000 in
theorem gX1_isLot_X1_has : GoodIn wsX1_isLot (wsV RX1 36 RX1 yX1_has wsX1_has) := goodIn_app (goodIn_of _ (by decide +kernel)) ggX1_isLot_X1_has
set_option maxRecDepth 20000 in
theorem ggX1_isDrain_X1_has : GoodIn wsX1_isDrain wsX1_has := goodIn_r _ [6, 7, 8, 9, 10, 11, 12, 13, 14, 15] (by decide +kernel) (by decide +kernel)
set_option maxRecDepth 20000 in
theorem gX1_isDrain_X1_has : GoodIn wsX1_isDrain (wsV RX1 36 RX1 yX1_has wsX1_has) := goodIn_app (goodIn_of _ (by decide +kernel)) ggX1_isDrain_X1_has
set_option maxRecDepth 20000 in
theorem ggX1_canTake_X1_has : GoodIn wsX1_canTake wsX1_has := goodIn_r _ [6, 7, 8, 9, 10, 11, 12, 13, 14, 15] (by decide +kernel) (by decide +kernel)
set_option maxRecDepth 20000 in
theorem gX1_canTake_X1_has : GoodIn wsX1_canTake (wsV RX1 36 RX1 yX1_has wsX1_has) := goodIn_app (goodIn_of _ (by decide +kernel)) ggX1_canTake_X1_has
set_option maxRecDepth 20000 in
theorem ggX1_addLot_X1_add : GoodIn wsX1_addLot wsX1_add := goodIn_r _ [9, 10, 11, 12, 13, 14, 15, 16, 17, 18, 19, 20] (by decide +kernel) (by decide +kernel)
set_option maxRecDepth 20000 in
theorem gX1_addLot_X1_add : GoodIn wsX1_addLot (wsV RX1 40 RX1 yX1_add wsX1_add) := goodIn_app (goodIn_of _ (by decide +kernel)) ggX1_addLot_X1_add
set_option maxRecDepth 20000 in
theorem ggX2_enter_X2_insert : GoodIn wsX2_enter wsX2_insert := goodIn_r _ [9, 1, 2, 3, 4, 10, 11, 12, 13] (by decide +kernel) (by decide +kernel)
set_option maxRecDepth 20000 in
theorem gX2_enter_X2_insert : GoodIn wsX2_enter (wsV RX2 26 RX2 yX2_insert wsX2_insert) := goodIn_app (goodIn_of _ (by decide +kernel)) ggX2_enter_X2_insert
set_option maxRecDepth 20000 in
theorem ggX3_sumOfLots_X3_unitsOf : GoodIn wsX3_sumOfLots wsX3_unitsOf := goodIn_r _ [7, 8, 9, 10, 11, 12, 13, 14, 15, 16, 17, 18] (by decide +kernel) (by decide +kernel)
set_option maxRecDepth 20000 in
theorem gX3_sumOfLots_X3_unitsOf : GoodIn wsX3_sumOfLots (wsV RX3 47 RX3 yX3_unitsOf wsX3_unitsOf) := goodIn_app (goodIn_of _ (by decide +kernel)) ggX3_sumOfLots_X3_unitsOf
set_option maxRecDepth 20000 in
theorem ggX3_replay_X3_clear : GoodIn wsX3_replay wsX3_clear := goodIn_r _ [10, 11, 12, 13, 14, 15, 16, 17, 18, 19, 20, 21, 22, 23, 24, 25, 26, 27, 28, 29, 30, 31, 32, 33, 34, 35, 9, 36, 37, 76, 77, 78, 79, 80, 81, 82, 83, 84, 85, 86, 87, 88, 89, 90, 91, 92, 93] (by decide +kernel) (by decide +kernel)
set_option maxRecDepth 20000 in
theorem gX3_replay_X3_clear : GoodIn wsX3_replay (wsV RX3 54 RX3 yX3_clear wsX3_clear) := goodIn_app (goodIn_of _ (by decide +kernel)) ggX3_replay_X3_clear
set_option maxRecDepth 20000 in
theorem ggX3_replay_X3_move : GoodIn wsX3_replay wsX3_move := goodIn_r _ [41, 16, 42, 43, 44, 13, 12, 14, 45, 46, 47, 9, 48, 22, 23, 24, 25, 26, 27, 28, 29, 30, 31, 32, 49, 50, 51, 52, 11, 15, 53, 54, 55, 56, 17, 57, 58, 59, 60, 61, 62, 63, 64, 65, 66, 67, 68, 69, 76, 77, 78, 79, 80, 81, 82, 83, 84, 85, 86, 87, 88, 89, 90, 91, 92, 93] (by decide +kernel) (by decide +kernel)
set_option maxRecDepth 20000 in
theorem gX3_replay_X3_move : GoodIn wsX3_replay (wsV RX3 70 RX3 yX3_move wsX3_move) := goodIn_app (goodIn_of _ (by decide +kernel)) ggX3_replay_X3_move
set_option maxRecDepth 20000 in
theorem ggX3_clear_J7_fill_d0a16 : GoodIn wsX3_clear wsJ7_fill_d0a16 := goodIn_r _ [11] (by decide +kernel) (by decide +kernel)
set_option maxRecDepth 20000 in
theorem gX3_clear_J7_fill_d0a16 : GoodIn wsX3_clear (va_wsS RX3 74 yJ7_fill_d0a16 wsJ7_fill_d0a16) := goodIn_app (goodIn_of _ (by decide +kernel)) ggX3_clear_J7_fill_d0a16
set_option maxRecDepth 20000 in
theorem ggX3_clear_X1_isLot : GoodIn wsX3_clear wsX1_isLot := goodIn_r _ [16, 17, 18, 19, 20, 15, 21, 22, 39, 40, 41, 42, 43, 44, 45, 46] (by decide +kernel) (by decide +kernel)
set_option maxRecDepth 20000 in
theorem gX3_clear_X1_isLot : GoodIn wsX3_clear (wsV RX3 80 RX1 yX1_isLot wsX1_isLot) := goodIn_app (goodIn_of _ (by decide +kernel)) ggX3_clear_X1_isLot
set_option maxRecDepth 20000 in
theorem ggX3_clear_X3_admit : GoodIn wsX3_clear wsX3_admit := goodIn_r _ [27, 1, 6, 28, 2, 5, 29, 30, 31, 32, 33, 34, 35, 36, 37, 38, 39, 40, 41, 42, 43, 44, 45, 46] (by decide +kernel) (by decide +kernel)
set_option maxRecDepth 20000 in
theorem gX3_clear_X3_admit : GoodIn wsX3_clear (wsV RX3 84 RX3 yX3_admit wsX3_admit) := goodIn_app (goodIn_of _ (by decide +kernel)) ggX3_clear_X3_admit
set_option maxRecDepth 20000 in
theorem ggX3_move_X3_unitsIn : GoodIn wsX3_move wsX3_unitsIn := goodIn_r _ [12, 6, 5, 48, 49, 50, 51, 52, 53, 54, 55, 56, 57] (by decide +kernel) (by decide +kernel)
set_option maxRecDepth 20000 in
theorem gX3_move_X3_unitsIn : GoodIn wsX3_move (wsV RX3 88 RX3 yX3_unitsIn wsX3_unitsIn) := goodIn_app (goodIn_of _ (by decide +kernel)) ggX3_move_X3_unitsIn
set_option maxRecDepth 20000 in
theorem ggX3_move_X1_isLot : GoodIn wsX3_move wsX1_isLot := goodIn_r _ [17, 18, 19, 20, 21, 16, 22, 23, 58, 59, 60, 61, 62, 63, 64, 65] (by decide +kernel) (by decide +kernel)
set_option maxRecDepth 20000 in
theorem gX3_move_X1_isLot : GoodIn wsX3_move (wsV RX3 80 RX1 yX1_isLot wsX1_isLot) := goodIn_app (goodIn_of _ (by decide +kernel)) ggX3_move_X1_isLot
set_option maxRecDepth 20000 in
theorem ggX3_move_X3_carry : GoodIn wsX3_move wsX3_carry := goodIn_r _ [27, 28, 29, 48, 49, 50, 51, 52, 53, 54, 55, 56, 57] (by decide +kernel) (by decide +kernel)
set_option maxRecDepth 20000 in
theorem gX3_move_X3_carry : GoodIn wsX3_move (wsV RX3 92 RX3 yX3_carry wsX3_carry) := goodIn_app (goodIn_of _ (by decide +kernel)) ggX3_move_X3_carry
set_option maxRecDepth 20000 in
theorem ggX3_move_X3_part : GoodIn wsX3_move wsX3_part := goodIn_r _ [33, 2, 1, 34, 3, 4, 35, 36, 37, 38, 11, 39, 28, 40, 41, 42, 43, 48, 49, 50, 51, 52, 53, 54, 55, 56, 57, 58, 59, 60, 61, 62, 63, 64, 65] (by decide +kernel) (by decide +kernel)
set_option maxRecDepth 20000 in
theorem gX3_move_X3_part : GoodIn wsX3_move (wsV RX3 96 RX3 yX3_part wsX3_part) := goodIn_app (goodIn_of _ (by decide +kernel)) ggX3_move_X3_part
set_option maxRecDepth 20000 in
theorem ggX3_move_X1_isDrain : GoodIn wsX3_move wsX1_isDrain := goodIn_r _ [47, 18, 19, 20, 21, 16, 22, 23, 58, 59, 60, 61, 62, 63, 64, 65] (by decide +kernel) (by decide +kernel)
set_option maxRecDepth 20000 in
theorem gX3_move_X1_isDrain : GoodIn wsX3_move (wsV RX3 103 RX1 yX1_isDrain wsX1_isDrain) := goodIn_app (goodIn_of _ (by decide +kernel)) ggX3_move_X1_isDrain
set_option maxRecDepth 20000 in
theorem ggX3_part_X3_unitsOf : GoodIn wsX3_part wsX3_unitsOf := goodIn_r _ [11, 12, 17, 18, 19, 20, 21, 22, 23, 24, 25, 26] (by decide +kernel) (by decide +kernel)
set_option maxRecDepth 20000 in
theorem gX3_part_X3_unitsOf : GoodIn wsX3_part (wsV RX3 47 RX3 yX3_unitsOf wsX3_unitsOf) := goodIn_app (goodIn_of _ (by decide +kernel)) ggX3_part_X3_unitsOf
set_option maxRecDepth 20000 in
theorem ggX3_part_X3_greatestRest : GoodIn wsX3_part wsX3_greatestRest := goodIn_r _ [16, 1, 6, 17, 18, 19, 20, 21, 22, 23, 24, 25, 26] (by decide +kernel) (by decide +kernel)
set_option maxRecDepth 20000 in
theorem gX3_part_X3_greatestRest : GoodIn wsX3_part (wsV RX3 106 RX3 yX3_greatestRest wsX3_greatestRest) := goodIn_app (goodIn_of _ (by decide +kernel)) ggX3_part_X3_greatestRest
set_option maxRecDepth 20000 in
theorem ggX3_countOtherNodes_X3_differs : GoodIn wsX3_countOtherNodes wsX3_differs := goodIn_r _ [7, 1, 2, 8, 9, 10, 6, 11, 12, 13, 14, 15, 16, 17, 18, 19, 20, 21, 22, 23, 24, 25, 26, 27, 28, 29, 30] (by decide +kernel) (by decide +kernel)
set_option maxRecDepth 20000 in
theorem gX3_countOtherNodes_X3_differs : GoodIn wsX3_countOtherNodes (wsV RX3 110 RX3 yX3_differs wsX3_differs) := goodIn_app (goodIn_of _ (by decide +kernel)) ggX3_countOtherNodes_X3_differs
set_option maxRecDepth 20000 in
theorem ggX3_differs_X3_unitsOf : GoodIn wsX3_differs wsX3_unitsOf := goodIn_r _ [7, 8, 9, 10, 11, 12, 13, 14, 15, 16, 17, 18] (by decide +kernel) (by decide +kernel)
set_option maxRecDepth 20000 in
theorem gX3_differs_X3_unitsOf : GoodIn wsX3_differs (wsV RX3 47 RX3 yX3_unitsOf wsX3_unitsOf) := goodIn_app (goodIn_of _ (by decide +kernel)) ggX3_differs_X3_unitsOf
