set_option maxRecDepth 20000 in
theorem ggX5_tryTicks_X2_pass : GoodIn wsX5_tryTicks wsX2_pass := goodIn_r _ [22, 11, 23, 24, 10, 25, 26, 27, 6, 28, 18, 17, 29, 30, 31, 32, 12, 33, 34, 35, 36, 8, 37, 38, 39, 40, 41, 42, 43, 44, 45, 46, 47, 48, 49, 50, 51, 52, 53, 54, 55, 56, 9, 57, 58, 59, 60, 72, 73, 74, 75, 76, 77, 78, 79] (by decide +kernel) (by decide +kernel)
set_option maxRecDepth 20000 in
theorem gX5_tryTicks_X2_pass : GoodIn wsX5_tryTicks (wsV RX5 147 RX2 yX2_pass wsX2_pass) := goodIn_app (goodIn_of _ (by decide +kernel)) ggX5_tryTicks_X2_pass
set_option maxRecDepth 20000 in
theorem ggX5_findPaces_X5_power : GoodIn wsX5_findPaces wsX5_power := goodIn_r _ [14] (by decide +kernel) (by decide +kernel)
set_option maxRecDepth 20000 in
theorem gX5_findPaces_X5_power : GoodIn wsX5_findPaces (va_wsS RX5 243 yX5_power wsX5_power) := goodIn_app (goodIn_of _ (by decide +kernel)) ggX5_findPaces_X5_power
set_option maxRecDepth 20000 in
theorem ggX5_findPaces_X2_become : GoodIn wsX5_findPaces wsX2_become := goodIn_r _ [19, 20, 21, 22, 23, 24, 25, 8, 9, 10, 26, 27, 94, 95, 96, 97, 98, 99, 100, 101] (by decide +kernel) (by decide +kernel)
set_option maxRecDepth 20000 in
theorem gX5_findPaces_X2_become : GoodIn wsX5_findPaces (wsV RX5 123 RX2 yX2_become wsX2_become) := goodIn_app (goodIn_of _ (by decide +kernel)) ggX5_findPaces_X2_become
set_option maxRecDepth 20000 in
theorem ggX5_findPaces_X5_writePaces : GoodIn wsX5_findPaces wsX5_writePaces := goodIn_r _ [31, 5, 83, 84, 85, 86, 87, 88, 89, 90, 91, 92, 93] (by decide +kernel) (by decide +kernel)
set_option maxRecDepth 20000 in
theorem gX5_findPaces_X5_writePaces : GoodIn wsX5_findPaces (wsV RX5 283 RX5 yX5_writePaces wsX5_writePaces) := goodIn_app (goodIn_of _ (by decide +kernel)) ggX5_findPaces_X5_writePaces
set_option maxRecDepth 20000 in
theorem ggX5_findPaces_X5_passLevels : GoodIn wsX5_findPaces wsX5_passLevels := goodIn_r _ [35, 2, 5, 36, 15, 16, 17, 18, 19, 20, 21, 22, 23, 24, 25, 8, 9, 10, 26, 27, 37, 38, 39, 40, 41, 42, 43, 44, 45, 46, 47, 48, 49, 50, 51, 52, 53, 54, 55, 56, 57, 58, 59, 60, 61, 62, 63, 64, 65, 66, 67, 68, 69, 70, 71, 72, 73, 74, 75, 76, 77, 78, 83, 84, 85, 86, 87, 88, 89, 90, 91, 92, 93, 94, 95, 96, 97, 98, 99, 100, 101] (by decide +kernel) (by decide +kernel)
set_option maxRecDepth 20000 in
theorem gX5_findPaces_X5_passLevels : GoodIn wsX5_findPaces (wsV RX5 286 RX5 yX5_passLevels wsX5_passLevels) := goodIn_app (goodIn_of _ (by decide +kernel)) ggX5_findPaces_X5_passLevels
set_option maxRecDepth 20000 in
theorem ggX5_findPaces_X5_sumOfPaces : GoodIn wsX5_findPaces wsX5_sumOfPaces := goodIn_r _ [82, 5, 83, 84, 85, 86, 87, 88, 89, 90, 91, 92, 93] (by decide +kernel) (by decide +kernel)
set_option maxRecDepth 20000 in
theorem gX5_findPaces_X5_sumOfPaces : GoodIn wsX5_findPaces (wsV RX5 289 RX5 yX5_sumOfPaces wsX5_sumOfPaces) := goodIn_app (goodIn_of _ (by decide +kernel)) ggX5_findPaces_X5_sumOfPaces
set_option maxRecDepth 20000 in
theorem ggX5_passLevels_X2_become : GoodIn wsX5_passLevels wsX2_become := goodIn_r _ [8, 9, 10, 11, 12, 13, 14, 15, 16, 17, 18, 19, 73, 74, 75, 76, 77, 78, 79, 80] (by decide +kernel) (by decide +kernel)
set_option maxRecDepth 20000 in
theorem gX5_passLevels_X2_become : GoodIn wsX5_passLevels (wsV RX5 123 RX2 yX2_become wsX2_become) := goodIn_app (goodIn_of _ (by decide +kernel)) ggX5_passLevels_X2_become
set_option maxRecDepth 20000 in
theorem ggX5_passLevels_X2_pass : GoodIn wsX5_passLevels wsX2_pass := goodIn_r _ [23, 12, 24, 25, 11, 26, 27, 28, 7, 29, 19, 18, 30, 31, 32, 33, 13, 34, 35, 36, 37, 9, 38, 39, 40, 41, 42, 43, 44, 45, 46, 47, 48, 49, 50, 51, 52, 53, 54, 55, 56, 57, 10, 58, 59, 60, 61, 73, 74, 75, 76, 77, 78, 79, 80] (by decide +kernel) (by decide +kernel)
set_option maxRecDepth 20000 in
theorem gX5_passLevels_X2_pass : GoodIn wsX5_passLevels (wsV RX5 147 RX2 yX2_pass wsX2_pass) := goodIn_app (goodIn_of _ (by decide +kernel)) ggX5_passLevels_X2_pass
set_option maxRecDepth 20000 in
theorem ggX5_kindsThatFit_X2_become : GoodIn wsX5_kindsThatFit wsX2_become := goodIn_r _ [8, 9, 10, 11, 12, 13, 14, 15, 16, 17, 18, 19, 83, 84, 85, 86, 87, 88, 89, 90] (by decide +kernel) (by decide +kernel)
set_option maxRecDepth 20000 in
theorem gX5_kindsThatFit_X2_become : GoodIn wsX5_kindsThatFit (wsV RX5 123 RX2 yX2_become wsX2_become) := goodIn_app (goodIn_of _ (by decide +kernel)) ggX5_kindsThatFit_X2_become
set_option maxRecDepth 20000 in
theorem ggX5_kindsThatFit_X5_trialFits : GoodIn wsX5_kindsThatFit wsX5_trialFits := goodIn_r _ [24, 1, 25, 26, 27, 28, 29, 7, 30, 12, 31, 32, 11, 33, 34, 35, 36, 19, 18, 37, 38, 39, 40, 13, 41, 42, 43, 44, 9, 45, 46, 47, 48, 49, 50, 51, 52, 53, 54, 55, 56, 57, 58, 59, 60, 61, 62, 63, 64, 10, 65, 66, 67, 68, 72, 73, 74, 75, 76, 77, 78, 79, 80, 81, 82, 83, 84, 85, 86, 87, 88, 89, 90, 91, 92, 93, 94] (by decide +kernel) (by decide +kernel)
set_option maxRecDepth 20000 in
theorem gX5_kindsThatFit_X5_trialFits : GoodIn wsX5_kindsThatFit (wsV RX5 292 RX5 yX5_trialFits wsX5_trialFits) := goodIn_app (goodIn_of _ (by decide +kernel)) ggX5_kindsThatFit_X5_trialFits
set_option maxRecDepth 20000 in
theorem ggX5_kindsThatFit_X5_oneIf : GoodIn wsX5_kindsThatFit wsX5_oneIf := goodIn_r _ [71] (by decide +kernel) (by decide +kernel)
set_option maxRecDepth 20000 in
theorem gX5_kindsThatFit_X5_oneIf : GoodIn wsX5_kindsThatFit (va_wsS RX5 181 yX5_oneIf wsX5_oneIf) := goodIn_app (goodIn_of _ (by decide +kernel)) ggX5_kindsThatFit_X5_oneIf
set_option maxRecDepth 20000 in
theorem ggX5_lanesThatFit_X2_become : GoodIn wsX5_lanesThatFit wsX2_become := goodIn_r _ [8, 9, 10, 11, 12, 13, 14, 15, 16, 17, 18, 19, 83, 84, 85, 86, 87, 88, 89, 90] (by decide +kernel) (by decide +kernel)
set_option maxRecDepth 20000 in
theorem gX5_lanesThatFit_X2_become : GoodIn wsX5_lanesThatFit (wsV RX5 123 RX2 yX2_become wsX2_become) := goodIn_app (goodIn_of _ (by decide +kernel)) ggX5_lanesThatFit_X2_become
set_option maxRecDepth 20000 in
theorem ggX5_lanesThatFit_X5_trialFits : GoodIn wsX5_lanesThatFit wsX5_trialFits := goodIn_r _ [24, 1, 25, 26, 27, 28, 29, 7, 30, 12, 31, 32, 11, 33, 34, 35, 36, 19, 18, 37, 38, 39, 40, 13, 41, 42, 43, 44, 9, 45, 46, 47, 48, 49, 50, 51, 52, 53, 54, 55, 56, 57, 58, 59, 60, 61, 62, 63, 64, 10, 65, 66, 67, 68, 72, 73, 74, 75, 76, 77, 78, 79, 80, 81, 82, 83, 84, 85, 86, 87, 88, 89, 90, 91, 92, 93, 94] (by decide +kernel) (by decide +kernel)
set_option maxRecDepth 20000 in
theorem gX5_lanesThatFit_X5_trialFits : GoodIn wsX5_lanesThatFit (wsV RX5 292 RX5 yX5_trialFits wsX5_trialFits) := goodIn_app (goodIn_of _ (by decide +kernel)) ggX5_lanesThatFit_X5_trialFits
set_option maxRecDepth 20000 in
theorem ggX5_lanesThatFit_X5_oneIf : GoodIn wsX5_lanesThatFit wsX5_oneIf := goodIn_r _ [71] (by decide +kernel) (by decide +kernel)
set_option maxRecDepth 20000 in
theorem gX5_lanesThatFit_X5_oneIf : GoodIn wsX5_lanesThatFit (va_wsS RX5 181 yX5_oneIf wsX5_oneIf) := goodIn_app (goodIn_of _ (by decide +kernel)) ggX5_lanesThatFit_X5_oneIf
set_option maxRecDepth 20000 in
theorem ggX5_speedsThatFit_X2_become : GoodIn wsX5_speedsThatFit wsX2_become := goodIn_r _ [8, 9, 10, 11, 12, 13, 14, 15, 16, 17, 18, 19, 83, 84, 85, 86, 87, 88, 89, 90] (by decide +kernel) (by decide +kernel)
set_option maxRecDepth 20000 in
theorem gX5_speedsThatFit_X2_become : GoodIn wsX5_speedsThatFit (wsV RX5 123 RX2 yX2_become wsX2_become) := goodIn_app (goodIn_of _ (by decide +kernel)) ggX5_speedsThatFit_X2_become
set_option maxRecDepth 20000 in
theorem ggX5_speedsThatFit_X5_trialFits : GoodIn wsX5_speedsThatFit wsX5_trialFits := goodIn_r _ [24, 1, 25, 26, 27, 28, 29, 7, 30, 12, 31, 32, 11, 33, 34, 35, 36, 19, 18, 37, 38, 39, 40, 13, 41, 42, 43, 44, 9, 45, 46, 47, 48, 49, 50, 51, 52, 53, 54, 55, 56, 57, 58, 59, 60, 61, 62, 63, 64, 10, 65, 66, 67, 68, 72, 73, 74, 75, 76, 77, 78, 79, 80, 81, 82, 83, 84, 85, 86, 87, 88, 89, 90, 91, 92, 93, 94] (by decide +kernel) (by decide +kernel)
set_option maxRecDepth 20000 in
theorem gX5_speedsThatFit_X5_trialFits : GoodIn wsX5_speedsThatFit (wsV RX5 292 RX5 yX5_trialFits wsX5_trialFits) := goodIn_app (goodIn_of _ (by decide +kernel)) ggX5_speedsThatFit_X5_trialFits
set_option maxRecDepth 20000 in
theorem ggX5_speedsThatFit_X5_oneIf : GoodIn wsX5_speedsThatFit wsX5_oneIf := goodIn_r _ [71] (by decide +kernel) (by decide +kernel)
set_option maxRecDepth 20000 in
theorem gX5_speedsThatFit_X5_oneIf : GoodIn wsX5_speedsThatFit (va_wsS RX5 181 yX5_oneIf wsX5_oneIf) := goodIn_app (goodIn_of _ (by decide +kernel)) ggX5_speedsThatFit_X5_oneIf
set_option maxRecDepth 20000 in
theorem ggX5_startsThatFit_X2_isOn : GoodIn wsX5_startsThatFit wsX2_isOn := goodIn_r _ [9, 10, 11, 85, 86, 87, 88, 89, 90, 91, 92] (by decide +kernel) (by decide +kernel)
set_option maxRecDepth 20000 in
theorem gX5_startsThatFit_X2_isOn : GoodIn wsX5_startsThatFit (wsV RX5 185 RX2 yX2_isOn wsX2_isOn) := goodIn_app (goodIn_of _ (by decide +kernel)) ggX5_startsThatFit_X2_isOn
set_option maxRecDepth 20000 in
theorem ggX5_startsThatFit_X2_isFree : GoodIn wsX5_startsThatFit wsX2_isFree := goodIn_r _ [15, 16, 17, 10, 18, 85, 86, 87, 88, 89, 90, 91, 92] (by decide +kernel) (by decide +kernel)
set_option maxRecDepth 20000 in
theorem gX5_startsThatFit_X2_isFree : GoodIn wsX5_startsThatFit (wsV RX5 296 RX2 yX2_isFree wsX2_isFree) := goodIn_app (goodIn_of _ (by decide +kernel)) ggX5_startsThatFit_X2_isFree
set_option maxRecDepth 20000 in
theorem ggX5_startsThatFit_X2_become : GoodIn wsX5_startsThatFit wsX2_become := goodIn_r _ [22, 11, 23, 24, 17, 16, 25, 26, 27, 28, 18, 10, 85, 86, 87, 88, 89, 90, 91, 92] (by decide +kernel) (by decide +kernel)
set_option maxRecDepth 20000 in
theorem gX5_startsThatFit_X2_become : GoodIn wsX5_startsThatFit (wsV RX5 123 RX2 yX2_become wsX2_become) := goodIn_app (goodIn_of _ (by decide +kernel)) ggX5_startsThatFit_X2_become
set_option maxRecDepth 20000 in
theorem ggX5_startsThatFit_X5_trialFits : GoodIn wsX5_startsThatFit wsX5_trialFits := goodIn_r _ [33, 3, 4, 34, 35, 36, 37, 8, 38, 17, 39, 40, 24, 41, 42, 43, 44, 10, 18, 45, 46, 47, 48, 16, 49, 6, 7, 9, 11, 50, 51, 52, 53, 54, 55, 56, 57, 58, 59, 60, 61, 62, 13, 14, 15, 63, 64, 65, 66, 23, 67, 68, 69, 70, 74, 75, 76, 77, 78, 79, 80, 81, 82, 83, 84, 85, 86, 87, 88, 89, 90, 91, 92, 93, 94, 95, 96] (by decide +kernel) (by decide +kernel)
set_option maxRecDepth 20000 in
theorem gX5_startsThatFit_X5_trialFits : GoodIn wsX5_startsThatFit (wsV RX5 292 RX5 yX5_trialFits wsX5_trialFits) := goodIn_app (goodIn_of _ (by decide +kernel)) ggX5_startsThatFit_X5_trialFits
set_option maxRecDepth 20000 in
theorem ggX5_startsThatFit_X5_oneIf : GoodIn wsX5_startsThatFit wsX5_oneIf := goodIn_r _ [73] (by decide +kernel) (by decide +kernel)
set_option maxRecDepth 20000 in
theorem gX5_startsThatFit_X5_oneIf : GoodIn wsX5_startsThatFit (va_wsS RX5 181 yX5_oneIf wsX5_oneIf) := goodIn_app (goodIn_of _ (by decide +kernel)) ggX5_startsThatFit_X5_oneIf
set_option maxRecDepth 20000 in
theorem ggX5_trialFits_X2_pass : GoodIn wsX5_trialFits wsX2_pass := goodIn_r _ [8, 9, 10, 11, 12, 13, 14, 15, 7, 16, 17, 18, 19, 20, 21, 22, 23, 24, 25, 26, 27, 28, 29, 30, 31, 32, 33, 34, 35, 36, 37, 38, 39, 40, 41, 42, 43, 44, 45, 46, 47, 48, 49, 50, 51, 52, 53, 65, 66, 67, 68, 69, 70, 71, 72] (by decide +kernel) (by decide +kernel)
set_option maxRecDepth 20000 in
theorem gX5_trialFits_X2_pass : GoodIn wsX5_trialFits (wsV RX5 147 RX2 yX2_pass wsX2_pass) := goodIn_app (goodIn_of _ (by decide +kernel)) ggX5_trialFits_X2_pass
set_option maxRecDepth 20000 in
theorem ggX5_answerOf_X4_leave : GoodIn wsX5_answerOf wsX4_leave := goodIn_r _ [8, 9, 10, 28, 29] (by decide +kernel) (by decide +kernel)
set_option maxRecDepth 20000 in
theorem gX5_answerOf_X4_leave : GoodIn wsX5_answerOf (wsV RX5 305 RX4 yX4_leave wsX4_leave) := goodIn_app (goodIn_of _ (by decide +kernel)) ggX5_answerOf_X4_leave
set_option maxRecDepth 20000 in
theorem ggX5_answerOf_X5_answerOf : GoodIn wsX5_answerOf wsX5_answerOf := goodIn_r _ [0, 1, 2, 3, 4, 5, 6, 7, 8, 9, 10, 11, 12, 13, 14, 15, 16, 17, 18, 19, 20, 21, 22, 23, 24, 25, 26, 27, 28, 29] (by decide +kernel) (by decide +kernel)
set_option maxRecDepth 20000 in
theorem gX5_answerOf_X5_answerOf : GoodIn wsX5_answerOf (va_wsS RX5 267 yX5_answerOf wsX5_answerOf) := goodIn_app (goodIn_of _ (by decide +kernel)) ggX5_answerOf_X5_answerOf
set_option maxRecDepth 20000 in
theorem ggX5_answerOf_X5_bodyFor : GoodIn wsX5_answerOf wsX5_bodyFor := goodIn_r _ [16, 17, 18, 19] (by decide +kernel) (by decide +kernel)
set_option maxRecDepth 20000 in
theorem gX5_answerOf_X5_bodyFor : GoodIn wsX5_answerOf (va_wsS RX5 264 yX5_bodyFor wsX5_bodyFor) := goodIn_app (goodIn_of _ (by decide +kernel)) ggX5_answerOf_X5_bodyFor
set_option maxRecDepth 20000 in
theorem ggX6_isRow_X6_in : GoodIn wsX6_isRow wsX6_in := goodIn_r _ [4] (by decide +kernel) (by decide +kernel)
set_option maxRecDepth 20000 in
theorem gX6_isRow_X6_in : GoodIn wsX6_isRow (va_wsS RX6 50 yX6_in wsX6_in) := goodIn_app (goodIn_of _ (by decide +kernel)) ggX6_isRow_X6_in
set_option maxRecDepth 20000 in
theorem ggX6_ends_X6_in : GoodIn wsX6_ends wsX6_in := goodIn_r _ [8] (by decide +kernel) (by decide +kernel)
set_option maxRecDepth 20000 in
theorem gX6_ends_X6_in : GoodIn wsX6_ends (va_wsS RX6 50 yX6_in wsX6_in) := goodIn_app (goodIn_of _ (by decide +kernel)) ggX6_ends_X6_in
set_option maxRecDepth 20000 in
theorem ggX6_row_X6_isRow : GoodIn wsX6_row wsX6_isRow := goodIn_r _ [9, 10, 11, 8, 12] (by decide +kernel) (by decide +kernel)
set_option maxRecDepth 20000 in
theorem gX6_row_X6_isRow : GoodIn wsX6_row (va_wsS RX6 61 yX6_isRow wsX6_isRow) := goodIn_app (goodIn_of _ (by decide +kernel)) ggX6_row_X6_isRow
set_option maxRecDepth 20000 in
theorem ggX6_row_X6_in : GoodIn wsX6_row wsX6_in := goodIn_r _ [12] (by decide +kernel) (by decide +kernel)
set_option maxRecDepth 20000 in
theorem gX6_row_X6_in : GoodIn wsX6_row (va_wsS RX6 50 yX6_in wsX6_in) := goodIn_app (goodIn_of _ (by decide +kernel)) ggX6_row_X6_in
set_option maxRecDepth 20000 in
theorem ggX6_row_X6_ends : GoodIn wsX6_row wsX6_ends := goodIn_r _ [16, 17, 18, 19, 20, 10, 11, 8, 12, 21, 22, 23, 24, 25, 26, 27, 28, 29, 30, 31, 32, 33, 34, 35, 36, 37, 38, 39, 40] (by decide +kernel) (by decide +kernel)
set_option maxRecDepth 20000 in
theorem gX6_row_X6_ends : GoodIn wsX6_row (wsV RX6 67 RX6 yX6_ends wsX6_ends) := goodIn_app (goodIn_of _ (by decide +kernel)) ggX6_row_X6_ends
set_option maxRecDepth 20000 in
theorem ggX6_set_X6_isRow : GoodIn wsX6_set wsX6_isRow := goodIn_r _ [11, 12, 13, 10, 14] (by decide +kernel) (by decide +kernel)
set_option maxRecDepth 20000 in
theorem gX6_set_X6_isRow : GoodIn wsX6_set (va_wsS RX6 61 yX6_isRow wsX6_isRow) := goodIn_app (goodIn_of _ (by decide +kernel)) ggX6_set_X6_isRow
set_option maxRecDepth 20000 in
theorem ggX6_set_X6_ends : GoodIn wsX6_set wsX6_ends := goodIn_r _ [18, 19, 3, 20, 7, 12, 13, 10, 14, 28, 29, 30, 31, 32, 33, 34, 35, 36, 37, 38, 39, 40, 41, 42, 43, 44, 45, 46, 47] (by decide +kernel) (by decide +kernel)
set_option maxRecDepth 20000 in
theorem gX6_set_X6_ends : GoodIn wsX6_set (wsV RX6 67 RX6 yX6_ends wsX6_ends) := goodIn_app (goodIn_of _ (by decide +kernel)) ggX6_set_X6_ends
set_option maxRecDepth 20000 in
theorem ggX6_set_X6_lies : GoodIn wsX6_set wsX6_lies := goodIn_r _ [24, 2, 28, 29, 30, 31, 32, 33, 34, 35, 36, 37, 38, 39, 40, 41, 42, 43, 44, 45, 46, 47] (by decide +kernel) (by decide +kernel)
set_option maxRecDepth 20000 in
theorem gX6_set_X6_lies : GoodIn wsX6_set (wsV RX6 71 RX6 yX6_lies wsX6_lies) := goodIn_app (goodIn_of _ (by decide +kernel)) ggX6_set_X6_lies
set_option maxRecDepth 20000 in
theorem ggX6_set_X6_cut : GoodIn wsX6_set wsX6_cut := goodIn_r _ [27] (by decide +kernel) (by decide +kernel)
set_option maxRecDepth 20000 in
theorem gX6_set_X6_cut : GoodIn wsX6_set (va_wsS RX6 75 yX6_cut wsX6_cut) := goodIn_app (goodIn_of _ (by decide +kernel)) ggX6_set_X6_cut
set_option maxRecDepth 20000 in
theorem ggX6_copy_X6_isRow : GoodIn wsX6_copy wsX6_isRow := goodIn_r _ [12, 13, 14, 11, 15] (by decide +kernel) (by decide +kernel)
set_option maxRecDepth 20000 in
theorem gX6_copy_X6_isRow : GoodIn wsX6_copy (va_wsS RX6 61 yX6_isRow wsX6_isRow) := goodIn_app (goodIn_of _ (by decide +kernel)) ggX6_copy_X6_isRow
set_option maxRecDepth 20000 in
theorem ggX6_copy_X6_ends : GoodIn wsX6_copy wsX6_ends := goodIn_r _ [19, 5, 3, 20, 21, 13, 14, 11, 15, 26, 27, 28, 29, 30, 31, 32, 33, 34, 35, 36, 37, 38, 39, 40, 41, 42, 43, 44, 45] (by decide +kernel) (by decide +kernel)
set_option maxRecDepth 20000 in
theorem gX6_copy_X6_ends : GoodIn wsX6_copy (wsV RX6 67 RX6 yX6_ends wsX6_ends) := goodIn_app (goodIn_of _ (by decide +kernel)) ggX6_copy_X6_ends
set_option maxRecDepth 20000 in
theorem ggX6_copy_X6_lies : GoodIn wsX6_copy wsX6_lies := goodIn_r _ [25, 2, 26, 27, 28, 29, 30, 31, 32, 33, 34, 35, 36, 37, 38, 39, 40, 41, 42, 43, 44, 45] (by decide +kernel) (by decide +kernel)
set_option maxRecDepth 20000 in
theorem gX6_copy_X6_lies : GoodIn wsX6_copy (wsV RX6 71 RX6 yX6_lies wsX6_lies) := goodIn_app (goodIn_of _ (by decide +kernel)) ggX6_copy_X6_lies
set_option maxRecDepth 20000 in
theorem ggX6_drop_X6_isRow : GoodIn wsX6_drop wsX6_isRow := goodIn_r _ [7, 8, 9, 6, 10] (by decide +kernel) (by decide +kernel)
set_option maxRecDepth 20000 in
theorem gX6_drop_X6_isRow : GoodIn wsX6_drop (va_wsS RX6 61 yX6_isRow wsX6_isRow) := goodIn_app (goodIn_of _ (by decide +kernel)) ggX6_drop_X6_isRow
set_option maxRecDepth 20000 in
theorem ggX6_drop_X6_ends : GoodIn wsX6_drop wsX6_ends := goodIn_r _ [14, 15, 3, 16, 17, 8, 9, 6, 10, 18, 19, 20, 21, 22, 23, 24, 25, 26, 27, 28, 29, 30, 31, 32, 33, 34, 35, 36, 37] (by decide +kernel) (by decide +kernel)
set_option maxRecDepth 20000 in
theorem gX6_drop_X6_ends : GoodIn wsX6_drop (wsV RX6 67 RX6 yX6_ends wsX6_ends) := goodIn_app (goodIn_of _ (by decide +kernel)) ggX6_drop_X6_ends
set_option maxRecDepth 20000 in
theorem ggX6_feed_X6_in : GoodIn wsX6_feed wsX6_in := goodIn_r _ [8] (by decide +kernel) (by decide +kernel)
set_option maxRecDepth 20000 in
theorem gX6_feed_X6_in : GoodIn wsX6_feed (va_wsS RX6 50 yX6_in wsX6_in) := goodIn_app (goodIn_of _ (by decide +kernel)) ggX6_feed_X6_in
set_option maxRecDepth 20000 in
theorem ggX6_isDigit_X6_in : GoodIn wsX6_isDigit wsX6_in := goodIn_r _ [4] (by decide +kernel) (by decide +kernel)
set_option maxRecDepth 20000 in
theorem gX6_isDigit_X6_in : GoodIn wsX6_isDigit (va_wsS RX6 50 yX6_in wsX6_in) := goodIn_app (goodIn_of _ (by decide +kernel)) ggX6_isDigit_X6_in
set_option maxRecDepth 20000 in
theorem ggX6_sign_X6_letterAt : GoodIn wsX6_sign wsX6_letterAt := goodIn_r _ [6, 7, 8, 14, 15, 16, 17, 18, 19, 20, 21, 22, 23, 24, 25, 26, 27, 28, 29, 30, 31, 32, 33] (by decide +kernel) (by decide +kernel)
set_option maxRecDepth 20000 in
theorem gX6_sign_X6_letterAt : GoodIn wsX6_sign (wsV RX6 89 RX6 yX6_letterAt wsX6_letterAt) := goodIn_app (goodIn_of _ (by decide +kernel)) ggX6_sign_X6_letterAt
set_option maxRecDepth 20000 in
theorem ggX6_sign_X6_fails : GoodIn wsX6_sign wsX6_fails := goodIn_r _ [12, 13, 14, 15, 16, 17, 18, 19, 20, 21, 22, 23, 24, 25, 26, 27, 28, 29, 30, 31, 32, 33] (by decide +kernel) (by decide +kernel)
set_option maxRecDepth 20000 in
theorem gX6_sign_X6_fails : GoodIn wsX6_sign (wsV RX6 92 RX6 yX6_fails wsX6_fails) := goodIn_app (goodIn_of _ (by decide +kernel)) ggX6_sign_X6_fails
set_option maxRecDepth 20000 in
theorem ggX6_number_X6_letterAt : GoodIn wsX6_number wsX6_letterAt := goodIn_r _ [8, 9, 2, 21, 22, 23, 24, 25, 26, 27, 28, 29, 30, 31, 32, 33, 34, 35, 36, 37, 38, 39, 40] (by decide +kernel) (by decide +kernel)
set_option maxRecDepth 20000 in
theorem gX6_number_X6_letterAt : GoodIn wsX6_number (wsV RX6 89 RX6 yX6_letterAt wsX6_letterAt) := goodIn_app (goodIn_of _ (by decide +kernel)) ggX6_number_X6_letterAt
set_option maxRecDepth 20000 in
theorem ggX6_number_X6_isDigit : GoodIn wsX6_number wsX6_isDigit := goodIn_r _ [12, 13, 14, 7, 15] (by decide +kernel) (by decide +kernel)
set_option maxRecDepth 20000 in
theorem gX6_number_X6_isDigit : GoodIn wsX6_number (va_wsS RX6 95 yX6_isDigit wsX6_isDigit) := goodIn_app (goodIn_of _ (by decide +kernel)) ggX6_number_X6_isDigit
set_option maxRecDepth 20000 in
theorem ggX6_number_X6_fails : GoodIn wsX6_number wsX6_fails := goodIn_r _ [19, 20, 21, 22, 23, 24, 25, 26, 27, 28, 29, 30, 31, 32, 33, 34, 35, 36, 37, 38, 39, 40] (by decide +kernel) (by decide +kernel)
set_option maxRecDepth 20000 in
theorem gX6_number_X6_fails : GoodIn wsX6_number (wsV RX6 92 RX6 yX6_fails wsX6_fails) := goodIn_app (goodIn_of _ (by decide +kernel)) ggX6_number_X6_fails
set_option maxRecDepth 20000 in
theorem ggX6_number_X6_in : GoodIn wsX6_number wsX6_in := goodIn_r _ [15] (by decide +kernel) (by decide +kernel)
set_option maxRecDepth 20000 in
theorem gX6_number_X6_in : GoodIn wsX6_number (va_wsS RX6 50 yX6_in wsX6_in) := goodIn_app (goodIn_of _ (by decide +kernel)) ggX6_number_X6_in
set_option maxRecDepth 20000 in
theorem ggX6_reads_X6_sign : GoodIn wsX6_reads wsX6_sign := goodIn_r _ [8, 1, 9, 10, 11, 7, 12, 2, 13, 14, 15, 16, 17, 18, 32, 33, 34, 35, 36, 37, 38, 39, 40, 41, 42, 43, 44, 45, 46, 47, 48, 49, 50, 51] (by decide +kernel) (by decide +kernel)
set_option maxRecDepth 20000 in
theorem gX6_reads_X6_sign : GoodIn wsX6_reads (wsV RX6 98 RX6 yX6_sign wsX6_sign) := goodIn_app (goodIn_of _ (by decide +kernel)) ggX6_reads_X6_sign
set_option maxRecDepth 20000 in
theorem ggX6_reads_X6_number : GoodIn wsX6_reads wsX6_number := goodIn_r _ [22, 1, 13, 3, 9, 10, 11, 7, 12, 2, 23, 24, 25, 26, 27, 28, 14, 15, 16, 17, 18, 32, 33, 34, 35, 36, 37, 38, 39, 40, 41, 42, 43, 44, 45, 46, 47, 48, 49, 50, 51] (by decide +kernel) (by decide +kernel)
set_option maxRecDepth 20000 in
theorem gX6_reads_X6_number : GoodIn wsX6_reads (wsV RX6 101 RX6 yX6_number wsX6_number) := goodIn_app (goodIn_of _ (by decide +kernel)) ggX6_reads_X6_number
set_option maxRecDepth 20000 in
theorem ggX6_reads_X6_letterAt : GoodIn wsX6_reads wsX6_letterAt := goodIn_r _ [12, 2, 13, 32, 33, 34, 35, 36, 37, 38, 39, 40, 41, 42, 43, 44, 45, 46, 47, 48, 49, 50, 51] (by decide +kernel) (by decide +kernel)
set_option maxRecDepth 20000 in
theorem gX6_reads_X6_letterAt : GoodIn wsX6_reads (wsV RX6 89 RX6 yX6_letterAt wsX6_letterAt) := goodIn_app (goodIn_of _ (by decide +kernel)) ggX6_reads_X6_letterAt
set_option maxRecDepth 20000 in
theorem ggX6_reads_X6_kindBy : GoodIn wsX6_reads wsX6_kindBy := goodIn_r _ [31] (by decide +kernel) (by decide +kernel)
set_option maxRecDepth 20000 in
theorem gX6_reads_X6_kindBy : GoodIn wsX6_reads (va_wsS RX6 104 yX6_kindBy wsX6_kindBy) := goodIn_app (goodIn_of _ (by decide +kernel)) ggX6_reads_X6_kindBy
set_option maxRecDepth 20000 in
theorem ggX6_reads_X6_fails : GoodIn wsX6_reads wsX6_fails := goodIn_r _ [17, 18, 32, 33, 34, 35, 36, 37, 38, 39, 40, 41, 42, 43, 44, 45, 46, 47, 48, 49, 50, 51] (by decide +kernel) (by decide +kernel)
set_option maxRecDepth 20000 in
theorem gX6_reads_X6_fails : GoodIn wsX6_reads (wsV RX6 92 RX6 yX6_fails wsX6_fails) := goodIn_app (goodIn_of _ (by decide +kernel)) ggX6_reads_X6_fails
set_option maxRecDepth 20000 in
theorem ggX6_stair_X6_reads : GoodIn wsX6_stair wsX6_reads := goodIn_r _ [13, 6, 2, 1, 14, 15, 16, 12, 17, 18, 19, 20, 21, 22, 23, 24, 25, 26, 3, 27, 28, 29, 30, 31, 32, 33, 34, 35, 36, 37, 38, 39, 40, 41, 42, 43, 44, 45, 46, 47, 48, 49, 50, 51, 52, 53, 54, 55, 56, 57, 58, 59] (by decide +kernel) (by decide +kernel)
set_option maxRecDepth 20000 in
theorem gX6_stair_X6_reads : GoodIn wsX6_stair (wsV RX6 107 RX6 yX6_reads wsX6_reads) := goodIn_app (goodIn_of _ (by decide +kernel)) ggX6_stair_X6_reads
set_option maxRecDepth 20000 in
theorem ggX6_isRider_X6_in : GoodIn wsX6_isRider wsX6_in := goodIn_r _ [5] (by decide +kernel) (by decide +kernel)
set_option maxRecDepth 20000 in
theorem gX6_isRider_X6_in : GoodIn wsX6_isRider (va_wsS RX6 50 yX6_in wsX6_in) := goodIn_app (goodIn_of _ (by decide +kernel)) ggX6_isRider_X6_in
set_option maxRecDepth 20000 in
theorem ggX6_goes_X6_in : GoodIn wsX6_goes wsX6_in := goodIn_r _ [4] (by decide +kernel) (by decide +kernel)
set_option maxRecDepth 20000 in
theorem gX6_goes_X6_in : GoodIn wsX6_goes (va_wsS RX6 50 yX6_in wsX6_in) := goodIn_app (goodIn_of _ (by decide +kernel)) ggX6_goes_X6_in
set_option maxRecDepth 20000 in
theorem ggX6_goes_X6_isFree : GoodIn wsX6_goes wsX6_isFree := goodIn_r _ [7] (by decide +kernel) (by decide +kernel)
set_option maxRecDepth 20000 in
theorem gX6_goes_X6_isFree : GoodIn wsX6_goes (va_wsS RX6 118 yX6_isFree wsX6_isFree) := goodIn_app (goodIn_of _ (by decide +kernel)) ggX6_goes_X6_isFree
set_option maxRecDepth 20000 in
theorem ggX6_moves_X6_goes : GoodIn wsX6_moves wsX6_goes := goodIn_r _ [4, 5, 6, 3, 7, 8, 9, 10] (by decide +kernel) (by decide +kernel)
set_option maxRecDepth 20000 in
theorem gX6_moves_X6_goes : GoodIn wsX6_moves (va_wsS RX6 122 yX6_goes wsX6_goes) := goodIn_app (goodIn_of _ (by decide +kernel)) ggX6_moves_X6_goes
set_option maxRecDepth 20000 in
theorem ggX6_tick_X6_moves : GoodIn wsX6_tick wsX6_moves := goodIn_r _ [5, 6, 7, 4, 8, 9, 10, 11, 12, 13, 14] (by decide +kernel) (by decide +kernel)
set_option maxRecDepth 20000 in
theorem gX6_tick_X6_moves : GoodIn wsX6_tick (va_wsS RX6 126 yX6_moves wsX6_moves) := goodIn_app (goodIn_of _ (by decide +kernel)) ggX6_tick_X6_moves
set_option maxRecDepth 20000 in
theorem ggX6_tick_X6_isOn : GoodIn wsX6_tick wsX6_isOn := goodIn_r _ [17] (by decide +kernel) (by decide +kernel)
set_option maxRecDepth 20000 in
theorem gX6_tick_X6_isOn : GoodIn wsX6_tick (va_wsS RX6 130 yX6_isOn wsX6_isOn) := goodIn_app (goodIn_of _ (by decide +kernel)) ggX6_tick_X6_isOn
set_option maxRecDepth 20000 in
theorem ggX6_tick_X6_isFree : GoodIn wsX6_tick wsX6_isFree := goodIn_r _ [14] (by decide +kernel) (by decide +kernel)
set_option maxRecDepth 20000 in
theorem gX6_tick_X6_isFree : GoodIn wsX6_tick (va_wsS RX6 118 yX6_isFree wsX6_isFree) := goodIn_app (goodIn_of _ (by decide +kernel)) ggX6_tick_X6_isFree
set_option maxRecDepth 20000 in
theorem ggX6_ticks_X6_isStair : GoodIn wsX6_ticks wsX6_isStair := goodIn_r _ [9, 3, 39, 40, 41, 42, 43, 44, 45, 46, 47, 48, 49, 50, 51, 52, 53, 54, 55, 56, 57, 58] (by decide +kernel) (by decide +kernel)
set_option maxRecDepth 20000 in
theorem gX6_ticks_X6_isStair : GoodIn wsX6_ticks (wsV RX6 133 RX6 yX6_isStair wsX6_isStair) := goodIn_app (goodIn_of _ (by decide +kernel)) ggX6_ticks_X6_isStair
set_option maxRecDepth 20000 in
theorem ggX6_ticks_X6_in : GoodIn wsX6_ticks wsX6_in := goodIn_r _ [12] (by decide +kernel) (by decide +kernel)
set_option maxRecDepth 20000 in
theorem gX6_ticks_X6_in : GoodIn wsX6_ticks (va_wsS RX6 50 yX6_in wsX6_in) := goodIn_app (goodIn_of _ (by decide +kernel)) ggX6_ticks_X6_in
set_option maxRecDepth 20000 in
theorem ggX6_ticks_X6_keeps : GoodIn wsX6_ticks wsX6_keeps := goodIn_r _ [16, 17, 18, 3, 39, 40, 41, 42, 43, 44, 45, 46, 47, 48, 49, 50, 51, 52, 53, 54, 55, 56, 57, 58] (by decide +kernel) (by decide +kernel)
set_option maxRecDepth 20000 in
theorem gX6_ticks_X6_keeps : GoodIn wsX6_ticks (wsV RX6 137 RX6 yX6_keeps wsX6_keeps) := goodIn_app (goodIn_of _ (by decide +kernel)) ggX6_ticks_X6_keeps
set_option maxRecDepth 20000 in
theorem ggX6_ticks_X6_tick : GoodIn wsX6_ticks wsX6_tick := goodIn_r _ [22, 23, 24, 25, 8, 26, 27, 28, 29, 10, 11, 12, 30, 31, 32, 33, 34, 35, 39, 40, 41, 42, 43, 44, 45, 46, 47, 48, 49, 50, 51, 52, 53, 54, 55, 56, 57, 58] (by decide +kernel) (by decide +kernel)
set_option maxRecDepth 20000 in
theorem gX6_ticks_X6_tick : GoodIn wsX6_ticks (wsV RX6 140 RX6 yX6_tick wsX6_tick) := goodIn_app (goodIn_of _ (by decide +kernel)) ggX6_ticks_X6_tick
set_option maxRecDepth 20000 in
theorem ggX6_ticks_X6_offIn : GoodIn wsX6_ticks wsX6_offIn := goodIn_r _ [38] (by decide +kernel) (by decide +kernel)
set_option maxRecDepth 20000 in
theorem gX6_ticks_X6_offIn : GoodIn wsX6_ticks (va_wsS RX6 144 yX6_offIn wsX6_offIn) := goodIn_app (goodIn_of _ (by decide +kernel)) ggX6_ticks_X6_offIn
set_option maxRecDepth 20000 in
theorem ggX6_speed_X6_isStair : GoodIn wsX6_speed wsX6_isStair := goodIn_r _ [8, 3, 18, 19, 20, 21, 22, 23, 24, 25, 26, 27, 28, 29, 30, 31, 32, 33, 34, 35, 36, 37] (by decide +kernel) (by decide +kernel)
set_option maxRecDepth 20000 in
theorem gX6_speed_X6_isStair : GoodIn wsX6_speed (wsV RX6 133 RX6 yX6_isStair wsX6_isStair) := goodIn_app (goodIn_of _ (by decide +kernel)) ggX6_speed_X6_isStair
set_option maxRecDepth 20000 in
theorem ggX6_speed_X6_in : GoodIn wsX6_speed wsX6_in := goodIn_r _ [11] (by decide +kernel) (by decide +kernel)
set_option maxRecDepth 20000 in
theorem gX6_speed_X6_in : GoodIn wsX6_speed (va_wsS RX6 50 yX6_in wsX6_in) := goodIn_app (goodIn_of _ (by decide +kernel)) ggX6_speed_X6_in
set_option maxRecDepth 20000 in
theorem ggX6_speed_X6_keeps : GoodIn wsX6_speed wsX6_keeps := goodIn_r _ [15, 16, 17, 3, 18, 19, 20, 21, 22, 23, 24, 25, 26, 27, 28, 29, 30, 31, 32, 33, 34, 35, 36, 37] (by decide +kernel) (by decide +kernel)
set_option maxRecDepth 20000 in
theorem gX6_speed_X6_keeps : GoodIn wsX6_speed (wsV RX6 137 RX6 yX6_keeps wsX6_keeps) := goodIn_app (goodIn_of _ (by decide +kernel)) ggX6_speed_X6_keeps
set_option maxRecDepth 20000 in
theorem ggX6_cross_X6_isRider : GoodIn wsX6_cross wsX6_isRider := goodIn_r _ [8, 2, 9, 10, 7, 11, 24, 25, 26, 27, 28, 29, 30, 31, 32, 33, 34, 35, 36, 37, 38, 39, 40, 41, 42, 43] (by decide +kernel) (by decide +kernel)
set_option maxRecDepth 20000 in
theorem gX6_cross_X6_isRider : GoodIn wsX6_cross (wsV RX6 148 RX6 yX6_isRider wsX6_isRider) := goodIn_app (goodIn_of _ (by decide +kernel)) ggX6_cross_X6_isRider
set_option maxRecDepth 20000 in
theorem ggX6_cross_X6_isOn : GoodIn wsX6_cross wsX6_isOn := goodIn_r _ [14] (by decide +kernel) (by decide +kernel)
set_option maxRecDepth 20000 in
theorem gX6_cross_X6_isOn : GoodIn wsX6_cross (va_wsS RX6 130 yX6_isOn wsX6_isOn) := goodIn_app (goodIn_of _ (by decide +kernel)) ggX6_cross_X6_isOn
set_option maxRecDepth 20000 in
theorem ggX6_cross_X6_isFree : GoodIn wsX6_cross wsX6_isFree := goodIn_r _ [17] (by decide +kernel) (by decide +kernel)
set_option maxRecDepth 20000 in
theorem gX6_cross_X6_isFree : GoodIn wsX6_cross (va_wsS RX6 118 yX6_isFree wsX6_isFree) := goodIn_app (goodIn_of _ (by decide +kernel)) ggX6_cross_X6_isFree
set_option maxRecDepth 20000 in
theorem ggX6_cross_X6_keeps : GoodIn wsX6_cross wsX6_keeps := goodIn_r _ [21, 22, 23, 2, 24, 25, 26, 27, 28, 29, 30, 31, 32, 33, 34, 35, 36, 37, 38, 39, 40, 41, 42, 43] (by decide +kernel) (by decide +kernel)
set_option maxRecDepth 20000 in
theorem gX6_cross_X6_keeps : GoodIn wsX6_cross (wsV RX6 137 RX6 yX6_keeps wsX6_keeps) := goodIn_app (goodIn_of _ (by decide +kernel)) ggX6_cross_X6_keeps
set_option maxRecDepth 20000 in
theorem ggX6_take_X6_isRider : GoodIn wsX6_take wsX6_isRider := goodIn_r _ [8, 2, 9, 10, 7, 11, 18, 19, 20, 21, 22, 23, 24, 25, 26, 27, 28, 29, 30, 31, 32, 33, 34, 35, 36, 37] (by decide +kernel) (by decide +kernel)
set_option maxRecDepth 20000 in
theorem gX6_take_X6_isRider : GoodIn wsX6_take (wsV RX6 148 RX6 yX6_isRider wsX6_isRider) := goodIn_app (goodIn_of _ (by decide +kernel)) ggX6_take_X6_isRider
set_option maxRecDepth 20000 in
theorem ggX6_take_X6_keeps : GoodIn wsX6_take wsX6_keeps := goodIn_r _ [15, 16, 17, 2, 18, 19, 20, 21, 22, 23, 24, 25, 26, 27, 28, 29, 30, 31, 32, 33, 34, 35, 36, 37] (by decide +kernel) (by decide +kernel)
set_option maxRecDepth 20000 in
theorem gX6_take_X6_keeps : GoodIn wsX6_take (wsV RX6 137 RX6 yX6_keeps wsX6_keeps) := goodIn_app (goodIn_of _ (by decide +kernel)) ggX6_take_X6_keeps
set_option maxRecDepth 20000 in
theorem ggX6_again_X6_isRider : GoodIn wsX6_again wsX6_isRider := goodIn_r _ [8, 2, 9, 10, 7, 11, 21, 22, 23, 24, 25, 26, 27, 28, 29, 30, 31, 32, 33, 34, 35, 36, 37, 38, 39, 40] (by decide +kernel) (by decide +kernel)
set_option maxRecDepth 20000 in
theorem gX6_again_X6_isRider : GoodIn wsX6_again (wsV RX6 148 RX6 yX6_isRider wsX6_isRider) := goodIn_app (goodIn_of _ (by decide +kernel)) ggX6_again_X6_isRider
set_option maxRecDepth 20000 in
theorem ggX6_again_X6_in : GoodIn wsX6_again wsX6_in := goodIn_r _ [11] (by decide +kernel) (by decide +kernel)
set_option maxRecDepth 20000 in
theorem gX6_again_X6_in : GoodIn wsX6_again (va_wsS RX6 50 yX6_in wsX6_in) := goodIn_app (goodIn_of _ (by decide +kernel)) ggX6_again_X6_in
set_option maxRecDepth 20000 in
theorem ggX6_again_X6_keeps : GoodIn wsX6_again wsX6_keeps := goodIn_r _ [15, 16, 17, 2, 21, 22, 23, 24, 25, 26, 27, 28, 29, 30, 31, 32, 33, 34, 35, 36, 37, 38, 39, 40] (by decide +kernel) (by decide +kernel)
set_option maxRecDepth 20000 in
theorem gX6_again_X6_keeps : GoodIn wsX6_again (wsV RX6 137 RX6 yX6_keeps wsX6_keeps) := goodIn_app (goodIn_of _ (by decide +kernel)) ggX6_again_X6_keeps
set_option maxRecDepth 20000 in
theorem ggX6_again_X6_offIn : GoodIn wsX6_again wsX6_offIn := goodIn_r _ [20] (by decide +kernel) (by decide +kernel)
set_option maxRecDepth 20000 in
theorem gX6_again_X6_offIn : GoodIn wsX6_again (va_wsS RX6 144 yX6_offIn wsX6_offIn) := goodIn_app (goodIn_of _ (by decide +kernel)) ggX6_again_X6_offIn
set_option maxRecDepth 20000 in
theorem ggX6_rider_X6_isRider : GoodIn wsX6_rider wsX6_isRider := goodIn_r _ [7, 2, 8, 9, 6, 10, 17, 18, 19, 20, 21, 22, 23, 24, 25, 26, 27, 28, 29, 30, 31, 32, 33, 34, 35, 36] (by decide +kernel) (by decide +kernel)
set_option maxRecDepth 20000 in
theorem gX6_rider_X6_isRider : GoodIn wsX6_rider (wsV RX6 148 RX6 yX6_isRider wsX6_isRider) := goodIn_app (goodIn_of _ (by decide +kernel)) ggX6_rider_X6_isRider
set_option maxRecDepth 20000 in
theorem ggX6_rider_X6_isOn : GoodIn wsX6_rider wsX6_isOn := goodIn_r _ [13] (by decide +kernel) (by decide +kernel)
set_option maxRecDepth 20000 in
theorem gX6_rider_X6_isOn : GoodIn wsX6_rider (va_wsS RX6 130 yX6_isOn wsX6_isOn) := goodIn_app (goodIn_of _ (by decide +kernel)) ggX6_rider_X6_isOn
set_option maxRecDepth 20000 in
theorem ggX6_rider_X6_isFree : GoodIn wsX6_rider wsX6_isFree := goodIn_r _ [16] (by decide +kernel) (by decide +kernel)
set_option maxRecDepth 20000 in
theorem gX6_rider_X6_isFree : GoodIn wsX6_rider (va_wsS RX6 118 yX6_isFree wsX6_isFree) := goodIn_app (goodIn_of _ (by decide +kernel)) ggX6_rider_X6_isFree
set_option maxRecDepth 20000 in
theorem ggX6_step_X6_in : GoodIn wsX6_step wsX6_in := goodIn_r _ [6] (by decide +kernel) (by decide +kernel)
set_option maxRecDepth 20000 in
theorem gX6_step_X6_in : GoodIn wsX6_step (va_wsS RX6 50 yX6_in wsX6_in) := goodIn_app (goodIn_of _ (by decide +kernel)) ggX6_step_X6_in
set_option maxRecDepth 20000 in
theorem ggX6_ahead_X6_isRider : GoodIn wsX6_ahead wsX6_isRider := goodIn_r _ [7, 8, 9, 10, 6, 11, 33, 34, 35, 36, 37, 38, 39, 40, 41, 42, 43, 44, 45, 46, 47, 48, 49, 50, 51, 52] (by decide +kernel) (by decide +kernel)
set_option maxRecDepth 20000 in
theorem gX6_ahead_X6_isRider : GoodIn wsX6_ahead (wsV RX6 148 RX6 yX6_isRider wsX6_isRider) := goodIn_app (goodIn_of _ (by decide +kernel)) ggX6_ahead_X6_isRider
set_option maxRecDepth 20000 in
theorem ggX6_ahead_X6_in : GoodIn wsX6_ahead wsX6_in := goodIn_r _ [11] (by decide +kernel) (by decide +kernel)
set_option maxRecDepth 20000 in
theorem gX6_ahead_X6_in : GoodIn wsX6_ahead (va_wsS RX6 50 yX6_in wsX6_in) := goodIn_app (goodIn_of _ (by decide +kernel)) ggX6_ahead_X6_in
