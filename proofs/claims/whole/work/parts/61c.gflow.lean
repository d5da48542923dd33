set_option maxRecDepth 20000 in
theorem ggX4_flow_X1_has : GoodIn wsX4_flow wsX1_has := goodIn_r _ [15, 16, 139, 140, 141, 142, 143, 144, 145, 146] rfl rfl
set_option maxRecDepth 20000 in
theorem gX4_flow_X1_has : GoodIn wsX4_flow (wsV RX4 69 RX1 yX1_has wsX1_has) := goodIn_app (goodIn_of _ (by decide +kernel)) ggX4_flow_X1_has
set_option maxRecDepth 20000 in
theorem ggX4_flow_X1_isLot : GoodIn wsX4_flow wsX1_isLot := goodIn_r _ [20, 21, 22, 12, 13, 14, 15, 16, 139, 140, 141, 142, 143, 144, 145, 146] rfl rfl
set_option maxRecDepth 20000 in
theorem gX4_flow_X1_isLot : GoodIn wsX4_flow (wsV RX4 57 RX1 yX1_isLot wsX1_isLot) := goodIn_app (goodIn_of _ (by decide +kernel)) ggX4_flow_X1_isLot
set_option maxRecDepth 20000 in
theorem ggX4_flow_X1_isDrain : GoodIn wsX4_flow wsX1_isDrain := goodIn_r _ [26, 21, 22, 12, 13, 14, 15, 16, 139, 140, 141, 142, 143, 144, 145, 146] rfl rfl
set_option maxRecDepth 20000 in
theorem gX4_flow_X1_isDrain : GoodIn wsX4_flow (wsV RX4 85 RX1 yX1_isDrain wsX1_isDrain) := goodIn_app (goodIn_of _ (by decide +kernel)) ggX4_flow_X1_isDrain
set_option maxRecDepth 20000 in
theorem ggX4_flow_X4_isAmount : GoodIn wsX4_flow wsX4_isAmount := goodIn_r _ [30, 31] rfl rfl
set_option maxRecDepth 20000 in
theorem gX4_flow_X4_isAmount : GoodIn wsX4_flow (va_wsS RX4 46 yX4_isAmount wsX4_isAmount) := goodIn_app (goodIn_of _ (by decide +kernel)) ggX4_flow_X4_isAmount
set_option maxRecDepth 20000 in
theorem ggX4_flow_X4_isDay : GoodIn wsX4_flow wsX4_isDay := goodIn_r _ [34, 35] rfl rfl
set_option maxRecDepth 20000 in
theorem gX4_flow_X4_isDay : GoodIn wsX4_flow (va_wsS RX4 50 yX4_isDay wsX4_isDay) := goodIn_app (goodIn_of _ (by decide +kernel)) ggX4_flow_X4_isDay
set_option maxRecDepth 20000 in
theorem ggX4_flow_X4_tell : GoodIn wsX4_flow wsX4_tell := goodIn_r _ [39, 7, 40, 8, 9, 41, 42, 17, 18, 19, 14, 20, 21, 22, 12, 13, 15, 16, 43, 44, 45, 46, 47, 48, 49, 50, 51, 52, 53, 54, 55, 56, 57, 58, 59, 60, 61, 62, 63, 64, 65, 66, 67, 68, 69, 70, 71, 72, 73, 74, 75, 76, 77, 78, 79, 80, 81, 82, 83, 84, 85, 86, 87, 88, 24, 25, 26, 89, 90, 91, 92, 93, 94, 95, 96, 97, 98, 99, 100, 101, 102, 103, 104, 105, 106, 107, 108, 109, 110, 111, 112, 113, 114, 115, 116, 117, 118, 119, 120, 121, 122, 123, 124, 125, 29, 126, 127, 128, 129, 130, 131, 132, 139, 140, 141, 142, 143, 144, 145, 146, 133, 134, 135, 136, 137, 138, 147, 148, 149, 150, 151, 152, 153, 154, 155, 156] rfl rfl
set_option maxRecDepth 20000 in
theorem gX4_flow_X4_tell : GoodIn wsX4_flow (wsV RX4 104 RX4 yX4_tell wsX4_tell) := goodIn_app (goodIn_of _ (by decide +kernel)) ggX4_flow_X4_tell
set_option maxRecDepth 20000 in
theorem ggL_flow_X4_flow : GoodIn wsL_flow wsX4_flow := goodIn_ca (goodIn_ca (goodIn_ca (goodIn_r _ [8, 9, 10, 11, 12, 13, 14, 15, 16, 17, 18, 19, 20, 21, 22, 23, 24, 25, 26, 27, 28, 29, 30, 31, 32, 33, 34, 35, 36, 7, 37, 38, 39, 40, 41, 42, 43, 44, 45, 46, 47, 48, 49, 50, 51, 52, 53, 54, 55, 56, 57, 58, 59, 60, 61, 62, 63, 64, 65, 66, 67, 68, 69, 70, 71, 72, 73, 74, 75, 76, 77, 78, 79, 80, 81, 82, 83, 84, 85, 86, 87, 88, 89, 90, 91, 92, 93, 94, 95, 96, 97, 98, 99, 100, 101, 102, 103, 104, 105, 106, 107, 108, 109, 110, 111, 112, 113, 114, 115, 116, 117, 118, 119, 120, 121, 122, 123, 124, 125, 126, 127, 128, 129, 130, 131, 132, 133, 134, 135, 136, 137, 138, 139, 140, 141, 142, 143, 144, 145, 146, 147, 148, 149, 150, 151, 152, 153, 154, 155, 156, 157, 158, 159, 160, 161, 162, 163] rfl rfl) (goodIn_sub (fun _ h => List.mem_cons_of_mem _ (List.mem_append_left _ (List.mem_append_left _ (List.mem_append_right _ h)))) (by decide +kernel))) (goodIn_sub (fun _ h => List.mem_cons_of_mem _ (List.mem_append_left _ (List.mem_append_right _ h))) (by decide +kernel))) (goodIn_sub (fun _ h => List.mem_cons_of_mem _ (List.mem_append_right _ h)) (by decide +kernel))
set_option maxRecDepth 20000 in
theorem gL_flow_X4_flow : GoodIn wsL_flow (wsV RL 7 RX4 yX4_flow wsX4_flow) := goodIn_app (goodIn_of _ (by decide +kernel)) ggL_flow_X4_flow
