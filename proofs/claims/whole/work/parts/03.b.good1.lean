set_option maxRecDepth 20000 in
theorem ggX5_again_X2_howManyAt : GoodIn wsX5_again wsX2_howManyAt := goodIn_r _ [50, 51, 52, 53, 30, 54, 35, 42, 55, 56, 57, 58, 59, 60, 61, 73, 74, 75, 76, 77, 78, 79, 80] (by decide +kernel) (by decide +kernel)
set_option maxRecDepth 20000 in
theorem gX5_again_X2_howManyAt : GoodIn wsX5_again (wsV RX5 151 RX2 yX2_howManyAt wsX2_howManyAt) := goodIn_app (goodIn_of _ (by decide +kernel)) ggX5_again_X2_howManyAt
set_option maxRecDepth 20000 in
theorem ggX5_undo_X0_takeBack : GoodIn wsX5_undo wsX0_takeBack := goodIn_r _ [9, 10, 11, 12, 13, 14, 15, 16, 17, 18, 19, 20, 21, 22, 23, 24, 25, 26, 27, 28, 29, 30, 31, 32, 44, 45, 46, 47, 48, 49, 50, 51, 52, 53, 54] (by decide +kernel) (by decide +kernel)
set_option maxRecDepth 20000 in
theorem gX5_undo_X0_takeBack : GoodIn wsX5_undo (wsV RX5 175 RX0 yX0_takeBack wsX0_takeBack) := goodIn_app (goodIn_of _ (by decide +kernel)) ggX5_undo_X0_takeBack
set_option maxRecDepth 20000 in
theorem ggX5_rider_X5_noRider : GoodIn wsX5_rider wsX5_noRider := goodIn_r _ [9, 2, 10, 11, 12, 8, 13, 39, 40, 41, 42, 43, 44, 45, 46, 47, 48, 49, 50, 51, 52, 53, 54, 55, 56, 57] (by decide +kernel) (by decide +kernel)
set_option maxRecDepth 20000 in
theorem gX5_rider_X5_noRider : GoodIn wsX5_rider (wsV RX5 157 RX5 yX5_noRider wsX5_noRider) := goodIn_app (goodIn_of _ (by decide +kernel)) ggX5_rider_X5_noRider
set_option maxRecDepth 20000 in
theorem ggX5_rider_X2_takesBoth : GoodIn wsX5_rider wsX2_takesBoth := goodIn_r _ [18, 19, 50, 51, 52, 53, 54, 55, 56, 57] (by decide +kernel) (by decide +kernel)
set_option maxRecDepth 20000 in
theorem gX5_rider_X2_takesBoth : GoodIn wsX5_rider (wsV RX5 178 RX2 yX2_takesBoth wsX2_takesBoth) := goodIn_app (goodIn_of _ (by decide +kernel)) ggX5_rider_X2_takesBoth
set_option maxRecDepth 20000 in
theorem ggX5_rider_X5_oneIf : GoodIn wsX5_rider wsX5_oneIf := goodIn_r _ [22] (by decide +kernel) (by decide +kernel)
set_option maxRecDepth 20000 in
theorem gX5_rider_X5_oneIf : GoodIn wsX5_rider (va_wsS RX5 181 yX5_oneIf wsX5_oneIf) := goodIn_app (goodIn_of _ (by decide +kernel)) ggX5_rider_X5_oneIf
set_option maxRecDepth 20000 in
theorem ggX5_rider_X2_isOn : GoodIn wsX5_rider wsX2_isOn := goodIn_r _ [26, 27, 28, 50, 51, 52, 53, 54, 55, 56, 57] (by decide +kernel) (by decide +kernel)
set_option maxRecDepth 20000 in
theorem gX5_rider_X2_isOn : GoodIn wsX5_rider (wsV RX5 185 RX2 yX2_isOn wsX2_isOn) := goodIn_app (goodIn_of _ (by decide +kernel)) ggX5_rider_X2_isOn
set_option maxRecDepth 20000 in
theorem ggX5_rider_X2_mayGo : GoodIn wsX5_rider wsX2_mayGo := goodIn_r _ [32, 28, 33, 34, 35, 17, 36, 19, 37, 27, 38, 50, 51, 52, 53, 54, 55, 56, 57] (by decide +kernel) (by decide +kernel)
set_option maxRecDepth 20000 in
theorem gX5_rider_X2_mayGo : GoodIn wsX5_rider (wsV RX5 188 RX2 yX2_mayGo wsX2_mayGo) := goodIn_app (goodIn_of _ (by decide +kernel)) ggX5_rider_X2_mayGo
set_option maxRecDepth 20000 in
theorem ggX5_step_X5_outside : GoodIn wsX5_step wsX5_outside := goodIn_r _ [7] (by decide +kernel) (by decide +kernel)
set_option maxRecDepth 20000 in
theorem gX5_step_X5_outside : GoodIn wsX5_step (va_wsS RX5 69 yX5_outside wsX5_outside) := goodIn_app (goodIn_of _ (by decide +kernel)) ggX5_step_X5_outside
set_option maxRecDepth 20000 in
theorem ggX5_step_X2_whoTakes : GoodIn wsX5_step wsX2_whoTakes := goodIn_r _ [12, 13, 14, 15, 16, 17, 18, 11, 19, 20, 32, 33, 34, 35, 36, 37, 38, 39] (by decide +kernel) (by decide +kernel)
set_option maxRecDepth 20000 in
theorem gX5_step_X2_whoTakes : GoodIn wsX5_step (wsV RX5 194 RX2 yX2_whoTakes wsX2_whoTakes) := goodIn_app (goodIn_of _ (by decide +kernel)) ggX5_step_X2_whoTakes
set_option maxRecDepth 20000 in
theorem ggX5_ahead_X5_noRider : GoodIn wsX5_ahead wsX5_noRider := goodIn_r _ [8, 9, 10, 11, 12, 7, 13, 76, 77, 78, 79, 80, 81, 82, 83, 84, 85, 86, 87, 88, 89, 90, 91, 92, 93, 94] (by decide +kernel) (by decide +kernel)
set_option maxRecDepth 20000 in
theorem gX5_ahead_X5_noRider : GoodIn wsX5_ahead (wsV RX5 157 RX5 yX5_noRider wsX5_noRider) := goodIn_app (goodIn_of _ (by decide +kernel)) ggX5_ahead_X5_noRider
set_option maxRecDepth 20000 in
theorem ggX5_ahead_X5_outside : GoodIn wsX5_ahead wsX5_outside := goodIn_r _ [13] (by decide +kernel) (by decide +kernel)
set_option maxRecDepth 20000 in
theorem gX5_ahead_X5_outside : GoodIn wsX5_ahead (va_wsS RX5 69 yX5_outside wsX5_outside) := goodIn_app (goodIn_of _ (by decide +kernel)) ggX5_ahead_X5_outside
set_option maxRecDepth 20000 in
theorem ggX5_ahead_X5_tryTicks : GoodIn wsX5_ahead wsX5_tryTicks := goodIn_r _ [17, 2, 9, 18, 19, 20, 21, 22, 23, 24, 25, 26, 27, 28, 29, 30, 31, 32, 33, 34, 35, 36, 37, 38, 39, 40, 41, 42, 43, 44, 45, 46, 47, 48, 49, 50, 51, 52, 53, 54, 55, 56, 57, 58, 59, 60, 61, 62, 63, 64, 65, 66, 67, 68, 69, 70, 71, 72, 73, 74, 75, 76, 77, 78, 79, 80, 81, 82, 83, 84, 85, 86, 87, 88, 89, 90, 91, 92, 93, 94] (by decide +kernel) (by decide +kernel)
set_option maxRecDepth 20000 in
theorem gX5_ahead_X5_tryTicks : GoodIn wsX5_ahead (wsV RX5 198 RX5 yX5_tryTicks wsX5_tryTicks) := goodIn_app (goodIn_of _ (by decide +kernel)) ggX5_ahead_X5_tryTicks
set_option maxRecDepth 20000 in
theorem ggX5_later_X5_noStair : GoodIn wsX5_later wsX5_noStair := goodIn_r _ [8, 9, 10, 95, 96, 97, 98, 99, 100, 101, 102, 103, 104, 105, 106, 107, 108, 109, 110, 111, 112, 113] (by decide +kernel) (by decide +kernel)
set_option maxRecDepth 20000 in
theorem gX5_later_X5_noStair : GoodIn wsX5_later (wsV RX5 136 RX5 yX5_noStair wsX5_noStair) := goodIn_app (goodIn_of _ (by decide +kernel)) ggX5_later_X5_noStair
set_option maxRecDepth 20000 in
theorem ggX5_later_X5_outside : GoodIn wsX5_later wsX5_outside := goodIn_r _ [13] (by decide +kernel) (by decide +kernel)
set_option maxRecDepth 20000 in
theorem gX5_later_X5_outside : GoodIn wsX5_later (va_wsS RX5 69 yX5_outside wsX5_outside) := goodIn_app (goodIn_of _ (by decide +kernel)) ggX5_later_X5_outside
set_option maxRecDepth 20000 in
theorem ggX5_later_X5_tryTicks : GoodIn wsX5_later wsX5_tryTicks := goodIn_r _ [17, 3, 9, 18, 19, 20, 21, 22, 23, 24, 25, 26, 27, 28, 29, 30, 31, 32, 33, 34, 35, 36, 37, 38, 39, 40, 41, 42, 43, 44, 45, 46, 47, 48, 49, 50, 51, 52, 53, 54, 55, 56, 57, 58, 59, 60, 61, 62, 63, 64, 65, 66, 67, 68, 69, 70, 71, 72, 73, 74, 75, 95, 96, 97, 98, 99, 100, 101, 102, 103, 104, 105, 106, 107, 108, 109, 110, 111, 112, 113] (by decide +kernel) (by decide +kernel)
set_option maxRecDepth 20000 in
theorem gX5_later_X5_tryTicks : GoodIn wsX5_later (wsV RX5 198 RX5 yX5_tryTicks wsX5_tryTicks) := goodIn_app (goodIn_of _ (by decide +kernel)) ggX5_later_X5_tryTicks
set_option maxRecDepth 20000 in
theorem ggX5_later_X2_howManyAt : GoodIn wsX5_later wsX2_howManyAt := goodIn_r _ [79, 80, 81, 82, 21, 83, 26, 33, 84, 85, 86, 87, 88, 89, 90, 106, 107, 108, 109, 110, 111, 112, 113] (by decide +kernel) (by decide +kernel)
set_option maxRecDepth 20000 in
theorem gX5_later_X2_howManyAt : GoodIn wsX5_later (wsV RX5 151 RX2 yX2_howManyAt wsX2_howManyAt) := goodIn_app (goodIn_of _ (by decide +kernel)) ggX5_later_X2_howManyAt
set_option maxRecDepth 20000 in
theorem ggX5_later_X2_stepsTaken : GoodIn wsX5_later wsX2_stepsTaken := goodIn_r _ [94, 26, 33, 48, 49, 50, 21, 51, 23, 106, 107, 108, 109, 110, 111, 112, 113] (by decide +kernel) (by decide +kernel)
set_option maxRecDepth 20000 in
theorem gX5_later_X2_stepsTaken : GoodIn wsX5_later (wsV RX5 201 RX2 yX2_stepsTaken wsX2_stepsTaken) := goodIn_app (goodIn_of _ (by decide +kernel)) ggX5_later_X2_stepsTaken
set_option maxRecDepth 20000 in
theorem ggX5_off_X5_noRider : GoodIn wsX5_off wsX5_noRider := goodIn_r _ [8, 3, 9, 10, 11, 7, 12, 79, 80, 81, 82, 83, 84, 85, 86, 87, 88, 89, 90, 91, 92, 93, 94, 95, 96, 97] (by decide +kernel) (by decide +kernel)
set_option maxRecDepth 20000 in
theorem gX5_off_X5_noRider : GoodIn wsX5_off (wsV RX5 157 RX5 yX5_noRider wsX5_noRider) := goodIn_app (goodIn_of _ (by decide +kernel)) ggX5_off_X5_noRider
set_option maxRecDepth 20000 in
theorem ggX5_off_X2_become : GoodIn wsX5_off wsX2_become := goodIn_r _ [17, 18, 19, 20, 21, 22, 23, 24, 25, 26, 27, 28, 90, 91, 92, 93, 94, 95, 96, 97] (by decide +kernel) (by decide +kernel)
set_option maxRecDepth 20000 in
theorem gX5_off_X2_become : GoodIn wsX5_off (wsV RX5 123 RX2 yX2_become wsX2_become) := goodIn_app (goodIn_of _ (by decide +kernel)) ggX5_off_X2_become
set_option maxRecDepth 20000 in
theorem ggX5_off_X2_passUntilOff : GoodIn wsX5_off wsX2_passUntilOff := goodIn_r _ [32, 28, 33, 34, 35, 36, 16, 37, 19, 38, 39, 40, 41, 21, 42, 20, 43, 44, 45, 46, 27, 47, 48, 49, 50, 22, 51, 52, 53, 54, 18, 55, 56, 57, 58, 59, 60, 61, 62, 63, 64, 65, 66, 67, 68, 69, 70, 71, 72, 73, 74, 75, 76, 77, 78, 90, 91, 92, 93, 94, 95, 96, 97] (by decide +kernel) (by decide +kernel)
set_option maxRecDepth 20000 in
theorem gX5_off_X2_passUntilOff : GoodIn wsX5_off (wsV RX5 204 RX2 yX2_passUntilOff wsX2_passUntilOff) := goodIn_app (goodIn_of _ (by decide +kernel)) ggX5_off_X2_passUntilOff
set_option maxRecDepth 20000 in
theorem ggX5_clear_X5_noStair : GoodIn wsX5_clear wsX5_noStair := goodIn_r _ [8, 3, 9, 95, 96, 97, 98, 99, 100, 101, 102, 103, 104, 105, 106, 107, 108, 109, 110, 111, 112, 113] (by decide +kernel) (by decide +kernel)
set_option maxRecDepth 20000 in
theorem gX5_clear_X5_noStair : GoodIn wsX5_clear (wsV RX5 136 RX5 yX5_noStair wsX5_noStair) := goodIn_app (goodIn_of _ (by decide +kernel)) ggX5_clear_X5_noStair
set_option maxRecDepth 20000 in
theorem ggX5_clear_X2_become : GoodIn wsX5_clear wsX2_become := goodIn_r _ [14, 15, 16, 17, 18, 19, 20, 21, 22, 23, 24, 25, 106, 107, 108, 109, 110, 111, 112, 113] (by decide +kernel) (by decide +kernel)
set_option maxRecDepth 20000 in
theorem gX5_clear_X2_become : GoodIn wsX5_clear (wsV RX5 123 RX2 yX2_become wsX2_become) := goodIn_app (goodIn_of _ (by decide +kernel)) ggX5_clear_X2_become
set_option maxRecDepth 20000 in
theorem ggX5_clear_X2_passUntilClear : GoodIn wsX5_clear wsX2_passUntilClear := goodIn_r _ [29, 30, 31, 32, 33, 13, 34, 18, 35, 36, 37, 38, 39, 40, 41, 42, 25, 43, 44, 45, 46, 47, 48, 49, 50, 51, 52, 53, 16, 54, 55, 56, 57, 58, 17, 59, 60, 61, 62, 24, 63, 64, 65, 66, 19, 67, 68, 69, 70, 15, 71, 72, 73, 74, 75, 76, 77, 78, 79, 80, 81, 82, 83, 84, 85, 86, 87, 88, 89, 90, 91, 92, 93, 94, 106, 107, 108, 109, 110, 111, 112, 113] (by decide +kernel) (by decide +kernel)
set_option maxRecDepth 20000 in
theorem gX5_clear_X2_passUntilClear : GoodIn wsX5_clear (wsV RX5 207 RX2 yX2_passUntilClear wsX2_passUntilClear) := goodIn_app (goodIn_of _ (by decide +kernel)) ggX5_clear_X2_passUntilClear
set_option maxRecDepth 20000 in
theorem ggX5_sorting_X5_noStair : GoodIn wsX5_sorting wsX5_noStair := goodIn_r _ [10, 3, 11, 108, 109, 110, 111, 112, 113, 114, 115, 116, 117, 118, 119, 120, 121, 122, 123, 124, 125, 126] (by decide +kernel) (by decide +kernel)
set_option maxRecDepth 20000 in
theorem gX5_sorting_X5_noStair : GoodIn wsX5_sorting (wsV RX5 136 RX5 yX5_noStair wsX5_noStair) := goodIn_app (goodIn_of _ (by decide +kernel)) ggX5_sorting_X5_noStair
set_option maxRecDepth 20000 in
theorem ggX5_sorting_X5_outside : GoodIn wsX5_sorting wsX5_outside := goodIn_r _ [14] (by decide +kernel) (by decide +kernel)
set_option maxRecDepth 20000 in
theorem gX5_sorting_X5_outside : GoodIn wsX5_sorting (va_wsS RX5 69 yX5_outside wsX5_outside) := goodIn_app (goodIn_of _ (by decide +kernel)) ggX5_sorting_X5_outside
set_option maxRecDepth 20000 in
theorem ggX5_sorting_X2_whoIsAt : GoodIn wsX5_sorting wsX2_whoIsAt := goodIn_r _ [19, 20, 21, 119, 120, 121, 122, 123, 124, 125, 126] (by decide +kernel) (by decide +kernel)
set_option maxRecDepth 20000 in
theorem gX5_sorting_X2_whoIsAt : GoodIn wsX5_sorting (wsV RX5 210 RX2 yX2_whoIsAt wsX2_whoIsAt) := goodIn_app (goodIn_of _ (by decide +kernel)) ggX5_sorting_X2_whoIsAt
set_option maxRecDepth 20000 in
theorem ggX5_sorting_X2_become : GoodIn wsX5_sorting wsX2_become := goodIn_r _ [25, 26, 27, 28, 20, 29, 30, 31, 32, 33, 34, 21, 119, 120, 121, 122, 123, 124, 125, 126] (by decide +kernel) (by decide +kernel)
set_option maxRecDepth 20000 in
theorem gX5_sorting_X2_become : GoodIn wsX5_sorting (wsV RX5 123 RX2 yX2_become wsX2_become) := goodIn_app (goodIn_of _ (by decide +kernel)) ggX5_sorting_X2_become
set_option maxRecDepth 20000 in
theorem ggX5_sorting_X2_putInLanes : GoodIn wsX5_sorting wsX2_putInLanes := goodIn_r _ [38, 20, 34, 119, 120, 121, 122, 123, 124, 125, 126] (by decide +kernel) (by decide +kernel)
set_option maxRecDepth 20000 in
theorem gX5_sorting_X2_putInLanes : GoodIn wsX5_sorting (wsV RX5 213 RX2 yX2_putInLanes wsX2_putInLanes) := goodIn_app (goodIn_of _ (by decide +kernel)) ggX5_sorting_X2_putInLanes
set_option maxRecDepth 20000 in
theorem ggX5_sorting_X2_passUntilClear : GoodIn wsX5_sorting wsX2_passUntilClear := goodIn_r _ [42, 43, 44, 45, 46, 18, 47, 20, 48, 49, 50, 51, 52, 16, 17, 19, 21, 53, 54, 55, 56, 57, 58, 59, 60, 61, 62, 63, 27, 64, 65, 66, 67, 68, 28, 69, 70, 71, 72, 34, 73, 74, 75, 76, 29, 77, 78, 79, 80, 26, 81, 82, 83, 84, 85, 86, 87, 88, 89, 90, 91, 92, 93, 94, 95, 96, 97, 98, 99, 100, 101, 102, 103, 104, 119, 120, 121, 122, 123, 124, 125, 126] (by decide +kernel) (by decide +kernel)
set_option maxRecDepth 20000 in
theorem gX5_sorting_X2_passUntilClear : GoodIn wsX5_sorting (wsV RX5 207 RX2 yX2_passUntilClear wsX2_passUntilClear) := goodIn_app (goodIn_of _ (by decide +kernel)) ggX5_sorting_X2_passUntilClear
set_option maxRecDepth 20000 in
theorem ggX5_sorting_X5_nextSubset : GoodIn wsX5_sorting wsX5_nextSubset := goodIn_r _ [107] (by decide +kernel) (by decide +kernel)
set_option maxRecDepth 20000 in
theorem gX5_sorting_X5_nextSubset : GoodIn wsX5_sorting (va_wsS RX5 216 yX5_nextSubset wsX5_nextSubset) := goodIn_app (goodIn_of _ (by decide +kernel)) ggX5_sorting_X5_nextSubset
set_option maxRecDepth 20000 in
theorem ggX5_taken_X5_noStair : GoodIn wsX5_taken wsX5_noStair := goodIn_r _ [12, 4, 6, 101, 102, 103, 104, 105, 106, 107, 108, 109, 110, 111, 112, 113, 114, 115, 116, 117, 118, 119] (by decide +kernel) (by decide +kernel)
set_option maxRecDepth 20000 in
theorem gX5_taken_X5_noStair : GoodIn wsX5_taken (wsV RX5 136 RX5 yX5_noStair wsX5_noStair) := goodIn_app (goodIn_of _ (by decide +kernel)) ggX5_taken_X5_noStair
set_option maxRecDepth 20000 in
theorem ggX5_taken_X5_outside : GoodIn wsX5_taken wsX5_outside := goodIn_r _ [15] (by decide +kernel) (by decide +kernel)
set_option maxRecDepth 20000 in
theorem gX5_taken_X5_outside : GoodIn wsX5_taken (va_wsS RX5 69 yX5_outside wsX5_outside) := goodIn_app (goodIn_of _ (by decide +kernel)) ggX5_taken_X5_outside
set_option maxRecDepth 20000 in
theorem ggX5_taken_X2_become : GoodIn wsX5_taken wsX2_become := goodIn_r _ [20, 21, 22, 23, 24, 25, 26, 27, 28, 29, 30, 31, 112, 113, 114, 115, 116, 117, 118, 119] (by decide +kernel) (by decide +kernel)
set_option maxRecDepth 20000 in
theorem gX5_taken_X2_become : GoodIn wsX5_taken (wsV RX5 123 RX2 yX2_become wsX2_become) := goodIn_app (goodIn_of _ (by decide +kernel)) ggX5_taken_X2_become
set_option maxRecDepth 20000 in
theorem ggX5_taken_X2_passUntilClear : GoodIn wsX5_taken wsX2_passUntilClear := goodIn_r _ [35, 36, 37, 38, 39, 19, 40, 24, 41, 42, 43, 44, 45, 46, 47, 48, 31, 49, 50, 51, 52, 53, 54, 55, 56, 57, 58, 59, 22, 60, 61, 62, 63, 64, 23, 65, 66, 67, 68, 30, 69, 70, 71, 72, 25, 73, 74, 75, 76, 21, 77, 78, 79, 80, 81, 82, 83, 84, 85, 86, 87, 88, 89, 90, 91, 92, 93, 94, 95, 96, 97, 98, 99, 100, 112, 113, 114, 115, 116, 117, 118, 119] (by decide +kernel) (by decide +kernel)
set_option maxRecDepth 20000 in
theorem gX5_taken_X2_passUntilClear : GoodIn wsX5_taken (wsV RX5 207 RX2 yX2_passUntilClear wsX2_passUntilClear) := goodIn_app (goodIn_of _ (by decide +kernel)) ggX5_taken_X2_passUntilClear
set_option maxRecDepth 20000 in
theorem ggX5_pace_X5_noRider : GoodIn wsX5_pace wsX5_noRider := goodIn_r _ [8, 9, 10, 11, 12, 7, 13, 96, 97, 98, 99, 100, 101, 102, 103, 104, 105, 106, 107, 108, 109, 110, 111, 112, 113, 114] (by decide +kernel) (by decide +kernel)
set_option maxRecDepth 20000 in
theorem gX5_pace_X5_noRider : GoodIn wsX5_pace (wsV RX5 157 RX5 yX5_noRider wsX5_noRider) := goodIn_app (goodIn_of _ (by decide +kernel)) ggX5_pace_X5_noRider
set_option maxRecDepth 20000 in
theorem ggX5_pace_X5_outside : GoodIn wsX5_pace wsX5_outside := goodIn_r _ [13] (by decide +kernel) (by decide +kernel)
set_option maxRecDepth 20000 in
theorem gX5_pace_X5_outside : GoodIn wsX5_pace (va_wsS RX5 69 yX5_outside wsX5_outside) := goodIn_app (goodIn_of _ (by decide +kernel)) ggX5_pace_X5_outside
set_option maxRecDepth 20000 in
theorem ggX5_pace_X5_findPaces : GoodIn wsX5_pace wsX5_findPaces := goodIn_r _ [17, 2, 18, 9, 19, 20, 3, 21, 22, 23, 24, 25, 26, 7, 27, 28, 29, 30, 31, 32, 33, 34, 35, 36, 37, 38, 39, 40, 41, 42, 43, 44, 45, 46, 47, 48, 49, 50, 51, 52, 53, 54, 55, 56, 57, 58, 59, 60, 61, 62, 63, 64, 65, 66, 67, 68, 69, 70, 71, 72, 73, 74, 75, 76, 77, 78, 79, 80, 81, 82, 83, 84, 85, 86, 87, 88, 89, 90, 91, 92, 93, 94, 95, 96, 97, 98, 99, 100, 101, 102, 103, 104, 105, 106, 107, 108, 109, 110, 111, 112, 113, 114] (by decide +kernel) (by decide +kernel)
set_option maxRecDepth 20000 in
theorem gX5_pace_X5_findPaces : GoodIn wsX5_pace (wsV RX5 219 RX5 yX5_findPaces wsX5_findPaces) := goodIn_app (goodIn_of _ (by decide +kernel)) ggX5_pace_X5_findPaces
set_option maxRecDepth 20000 in
theorem ggX5_fits_X5_noRider : GoodIn wsX5_fits wsX5_noRider := goodIn_r _ [8, 9, 10, 11, 12, 7, 13, 123, 124, 125, 126, 127, 128, 129, 130, 131, 132, 133, 138, 139, 140, 141, 142, 143, 144, 145] (by decide +kernel) (by decide +kernel)
set_option maxRecDepth 20000 in
theorem gX5_fits_X5_noRider : GoodIn wsX5_fits (wsV RX5 157 RX5 yX5_noRider wsX5_noRider) := goodIn_app (goodIn_of _ (by decide +kernel)) ggX5_fits_X5_noRider
set_option maxRecDepth 20000 in
theorem ggX5_fits_X5_noRow : GoodIn wsX5_fits wsX5_noRow := goodIn_r _ [16, 11, 12, 7, 13] (by decide +kernel) (by decide +kernel)
set_option maxRecDepth 20000 in
theorem gX5_fits_X5_noRow : GoodIn wsX5_fits (va_wsS RX5 65 yX5_noRow wsX5_noRow) := goodIn_app (goodIn_of _ (by decide +kernel)) ggX5_fits_X5_noRow
set_option maxRecDepth 20000 in
theorem ggX5_fits_X5_outside : GoodIn wsX5_fits wsX5_outside := goodIn_r _ [13] (by decide +kernel) (by decide +kernel)
set_option maxRecDepth 20000 in
theorem gX5_fits_X5_outside : GoodIn wsX5_fits (va_wsS RX5 69 yX5_outside wsX5_outside) := goodIn_app (goodIn_of _ (by decide +kernel)) ggX5_fits_X5_outside
set_option maxRecDepth 20000 in
theorem ggX5_fits_X5_found : GoodIn wsX5_fits wsX5_found := goodIn_r _ [20, 21, 22, 123, 124, 125, 126, 127, 128, 129, 130, 131, 132, 133] (by decide +kernel) (by decide +kernel)
set_option maxRecDepth 20000 in
theorem gX5_fits_X5_found : GoodIn wsX5_fits (wsV RX5 74 RX5 yX5_found wsX5_found) := goodIn_app (goodIn_of _ (by decide +kernel)) ggX5_fits_X5_found
set_option maxRecDepth 20000 in
theorem ggX5_fits_X1_holds : GoodIn wsX5_fits wsX1_holds := goodIn_r _ [27, 28, 134, 135, 136, 137] (by decide +kernel) (by decide +kernel)
set_option maxRecDepth 20000 in
theorem gX5_fits_X1_holds : GoodIn wsX5_fits (wsV RX5 89 RX1 yX1_holds wsX1_holds) := goodIn_app (goodIn_of _ (by decide +kernel)) ggX5_fits_X1_holds
set_option maxRecDepth 20000 in
theorem ggX5_fits_X5_kindsThatFit : GoodIn wsX5_fits wsX5_kindsThatFit := goodIn_r _ [32, 33, 9, 34, 35, 36, 37, 38, 39, 40, 41, 42, 43, 44, 45, 46, 47, 48, 49, 50, 51, 52, 53, 7, 54, 55, 56, 57, 58, 59, 60, 61, 62, 63, 64, 65, 66, 67, 68, 69, 70, 71, 72, 73, 74, 75, 76, 77, 78, 79, 80, 81, 82, 83, 84, 85, 86, 87, 88, 89, 90, 91, 92, 93, 94, 95, 96, 97, 98, 99, 100, 101, 123, 124, 125, 126, 127, 128, 129, 130, 131, 132, 133, 138, 139, 140, 141, 142, 143, 144, 145, 134, 135, 136, 137] (by decide +kernel) (by decide +kernel)
set_option maxRecDepth 20000 in
theorem gX5_fits_X5_kindsThatFit : GoodIn wsX5_fits (wsV RX5 222 RX5 yX5_kindsThatFit wsX5_kindsThatFit) := goodIn_app (goodIn_of _ (by decide +kernel)) ggX5_fits_X5_kindsThatFit
set_option maxRecDepth 20000 in
theorem ggX5_fits_X5_fine : GoodIn wsX5_fits wsX5_fine := goodIn_r _ [105, 21, 123, 124, 125, 126, 127, 128, 129, 130, 131, 132, 133] (by decide +kernel) (by decide +kernel)
set_option maxRecDepth 20000 in
theorem gX5_fits_X5_fine : GoodIn wsX5_fits (wsV RX5 82 RX5 yX5_fine wsX5_fine) := goodIn_app (goodIn_of _ (by decide +kernel)) ggX5_fits_X5_fine
set_option maxRecDepth 20000 in
theorem ggX5_fits_X5_lanesThatFit : GoodIn wsX5_fits wsX5_lanesThatFit := goodIn_r _ [109, 33, 9, 110, 35, 36, 37, 38, 39, 40, 41, 42, 43, 44, 45, 46, 47, 48, 49, 50, 51, 52, 53, 7, 54, 55, 56, 57, 58, 59, 60, 61, 62, 63, 64, 65, 66, 67, 68, 69, 70, 71, 72, 73, 74, 75, 76, 77, 78, 79, 80, 81, 82, 83, 84, 85, 86, 87, 88, 89, 90, 91, 92, 93, 94, 95, 96, 97, 98, 99, 100, 101, 123, 124, 125, 126, 127, 128, 129, 130, 131, 132, 133, 138, 139, 140, 141, 142, 143, 144, 145, 134, 135, 136, 137] (by decide +kernel) (by decide +kernel)
set_option maxRecDepth 20000 in
theorem gX5_fits_X5_lanesThatFit : GoodIn wsX5_fits (wsV RX5 226 RX5 yX5_lanesThatFit wsX5_lanesThatFit) := goodIn_app (goodIn_of _ (by decide +kernel)) ggX5_fits_X5_lanesThatFit
set_option maxRecDepth 20000 in
theorem ggX5_fits_X5_speedsThatFit : GoodIn wsX5_fits wsX5_speedsThatFit := goodIn_r _ [114, 33, 9, 115, 35, 36, 37, 38, 39, 40, 41, 42, 43, 44, 45, 46, 47, 48, 49, 50, 51, 52, 53, 7, 54, 55, 56, 57, 58, 59, 60, 61, 62, 63, 64, 65, 66, 67, 68, 69, 70, 71, 72, 73, 74, 75, 76, 77, 78, 79, 80, 81, 82, 83, 84, 85, 86, 87, 88, 89, 90, 91, 92, 93, 94, 95, 96, 97, 98, 99, 100, 101, 123, 124, 125, 126, 127, 128, 129, 130, 131, 132, 133, 138, 139, 140, 141, 142, 143, 144, 145, 134, 135, 136, 137] (by decide +kernel) (by decide +kernel)
set_option maxRecDepth 20000 in
theorem gX5_fits_X5_speedsThatFit : GoodIn wsX5_fits (wsV RX5 229 RX5 yX5_speedsThatFit wsX5_speedsThatFit) := goodIn_app (goodIn_of _ (by decide +kernel)) ggX5_fits_X5_speedsThatFit
set_option maxRecDepth 20000 in
theorem ggX5_fits_X5_startsThatFit : GoodIn wsX5_fits wsX5_startsThatFit := goodIn_r _ [119, 9, 120, 33, 55, 121, 72, 73, 38, 74, 50, 40, 122, 88, 89, 90, 44, 43, 49, 35, 36, 37, 39, 41, 42, 45, 46, 47, 48, 51, 52, 53, 7, 54, 56, 57, 58, 59, 60, 61, 62, 63, 64, 65, 66, 67, 68, 69, 70, 71, 75, 76, 77, 78, 79, 80, 81, 82, 83, 84, 85, 86, 87, 91, 92, 93, 94, 95, 96, 97, 98, 99, 100, 101, 123, 124, 125, 126, 127, 128, 129, 130, 131, 132, 133, 138, 139, 140, 141, 142, 143, 144, 145, 134, 135, 136, 137] (by decide +kernel) (by decide +kernel)
set_option maxRecDepth 20000 in
theorem gX5_fits_X5_startsThatFit : GoodIn wsX5_fits (wsV RX5 232 RX5 yX5_startsThatFit wsX5_startsThatFit) := goodIn_app (goodIn_of _ (by decide +kernel)) ggX5_fits_X5_startsThatFit
set_option maxRecDepth 20000 in
theorem ggX5_absent_X5_noRider : GoodIn wsX5_absent wsX5_noRider := goodIn_r _ [9, 2, 10, 11, 12, 8, 13, 108, 109, 110, 111, 112, 113, 114, 115, 116, 117, 118, 119, 120, 121, 122, 123, 124, 125, 126] (by decide +kernel) (by decide +kernel)
set_option maxRecDepth 20000 in
theorem gX5_absent_X5_noRider : GoodIn wsX5_absent (wsV RX5 157 RX5 yX5_noRider wsX5_noRider) := goodIn_app (goodIn_of _ (by decide +kernel)) ggX5_absent_X5_noRider
set_option maxRecDepth 20000 in
theorem ggX5_absent_X5_outside : GoodIn wsX5_absent wsX5_outside := goodIn_r _ [13] (by decide +kernel) (by decide +kernel)
set_option maxRecDepth 20000 in
theorem gX5_absent_X5_outside : GoodIn wsX5_absent (va_wsS RX5 69 yX5_outside wsX5_outside) := goodIn_app (goodIn_of _ (by decide +kernel)) ggX5_absent_X5_outside
set_option maxRecDepth 20000 in
theorem ggX5_absent_X2_whoIsAt : GoodIn wsX5_absent wsX2_whoIsAt := goodIn_r _ [18, 19, 20, 119, 120, 121, 122, 123, 124, 125, 126] (by decide +kernel) (by decide +kernel)
set_option maxRecDepth 20000 in
theorem gX5_absent_X2_whoIsAt : GoodIn wsX5_absent (wsV RX5 210 RX2 yX2_whoIsAt wsX2_whoIsAt) := goodIn_app (goodIn_of _ (by decide +kernel)) ggX5_absent_X2_whoIsAt
set_option maxRecDepth 20000 in
theorem ggX5_absent_J6_bitCount_0f7a4 : GoodIn wsX5_absent wsJ6_bitCount_0f7a4 := goodIn_r _ [24, 25, 26, 27] (by decide +kernel) (by decide +kernel)
set_option maxRecDepth 20000 in
theorem gX5_absent_J6_bitCount_0f7a4 : GoodIn wsX5_absent (va_wsS RX5 235 yJ6_bitCount_0f7a4 wsJ6_bitCount_0f7a4) := goodIn_app (goodIn_of _ (by decide +kernel)) ggX5_absent_J6_bitCount_0f7a4
set_option maxRecDepth 20000 in
theorem ggX5_absent_X2_become : GoodIn wsX5_absent wsX2_become := goodIn_r _ [31, 32, 33, 34, 19, 35, 36, 37, 38, 39, 40, 20, 119, 120, 121, 122, 123, 124, 125, 126] (by decide +kernel) (by decide +kernel)
set_option maxRecDepth 20000 in
theorem gX5_absent_X2_become : GoodIn wsX5_absent (wsV RX5 123 RX2 yX2_become wsX2_become) := goodIn_app (goodIn_of _ (by decide +kernel)) ggX5_absent_X2_become
set_option maxRecDepth 20000 in
theorem ggX5_absent_X2_takeOff : GoodIn wsX5_absent wsX2_takeOff := goodIn_r _ [44, 19, 20, 119, 120, 121, 122, 123, 124, 125, 126] (by decide +kernel) (by decide +kernel)
set_option maxRecDepth 20000 in
theorem gX5_absent_X2_takeOff : GoodIn wsX5_absent (wsV RX5 240 RX2 yX2_takeOff wsX2_takeOff) := goodIn_app (goodIn_of _ (by decide +kernel)) ggX5_absent_X2_takeOff
set_option maxRecDepth 20000 in
theorem ggX5_absent_X2_passUntilOff : GoodIn wsX5_absent wsX2_passUntilOff := goodIn_r _ [48, 20, 49, 50, 51, 52, 17, 53, 33, 54, 55, 56, 57, 19, 58, 34, 59, 60, 61, 62, 40, 63, 64, 65, 66, 35, 67, 68, 69, 70, 32, 71, 72, 73, 74, 75, 76, 77, 78, 79, 80, 81, 82, 83, 84, 85, 86, 87, 88, 89, 90, 91, 92, 93, 94, 119, 120, 121, 122, 123, 124, 125, 126] (by decide +kernel) (by decide +kernel)
set_option maxRecDepth 20000 in
theorem gX5_absent_X2_passUntilOff : GoodIn wsX5_absent (wsV RX5 204 RX2 yX2_passUntilOff wsX2_passUntilOff) := goodIn_app (goodIn_of _ (by decide +kernel)) ggX5_absent_X2_passUntilOff
set_option maxRecDepth 20000 in
theorem ggX5_absent_X5_power : GoodIn wsX5_absent wsX5_power := goodIn_r _ [97] (by decide +kernel) (by decide +kernel)
set_option maxRecDepth 20000 in
theorem gX5_absent_X5_power : GoodIn wsX5_absent (va_wsS RX5 243 yX5_power wsX5_power) := goodIn_app (goodIn_of _ (by decide +kernel)) ggX5_absent_X5_power
set_option maxRecDepth 20000 in
theorem ggX5_absent_X5_nextSubset : GoodIn wsX5_absent wsX5_nextSubset := goodIn_r _ [100] (by decide +kernel) (by decide +kernel)
set_option maxRecDepth 20000 in
theorem gX5_absent_X5_nextSubset : GoodIn wsX5_absent (va_wsS RX5 216 yX5_nextSubset wsX5_nextSubset) := goodIn_app (goodIn_of _ (by decide +kernel)) ggX5_absent_X5_nextSubset
set_option maxRecDepth 20000 in
theorem ggX5_absent_X5_greatestDivisor : GoodIn wsX5_absent wsX5_greatestDivisor := goodIn_r _ [103, 104, 105, 106, 107] (by decide +kernel) (by decide +kernel)
set_option maxRecDepth 20000 in
theorem gX5_absent_X5_greatestDivisor : GoodIn wsX5_absent (va_wsS RX5 246 yX5_greatestDivisor wsX5_greatestDivisor) := goodIn_app (goodIn_of _ (by decide +kernel)) ggX5_absent_X5_greatestDivisor
set_option maxRecDepth 20000 in
theorem ggX5_drawn_X5_noStair : GoodIn wsX5_drawn wsX5_noStair := goodIn_r _ [12, 5, 13, 98, 99, 100, 101, 102, 103, 104, 105, 106, 107, 108, 109, 110, 111, 112, 113, 114, 115, 116] (by decide +kernel) (by decide +kernel)
set_option maxRecDepth 20000 in
theorem gX5_drawn_X5_noStair : GoodIn wsX5_drawn (wsV RX5 136 RX5 yX5_noStair wsX5_noStair) := goodIn_app (goodIn_of _ (by decide +kernel)) ggX5_drawn_X5_noStair
set_option maxRecDepth 20000 in
theorem ggX5_drawn_X5_outside : GoodIn wsX5_drawn wsX5_outside := goodIn_r _ [16] (by decide +kernel) (by decide +kernel)
set_option maxRecDepth 20000 in
theorem gX5_drawn_X5_outside : GoodIn wsX5_drawn (va_wsS RX5 69 yX5_outside wsX5_outside) := goodIn_app (goodIn_of _ (by decide +kernel)) ggX5_drawn_X5_outside
set_option maxRecDepth 20000 in
theorem ggX5_drawn_X2_become : GoodIn wsX5_drawn wsX2_become := goodIn_r _ [21, 22, 23, 24, 25, 26, 27, 28, 29, 30, 31, 32, 109, 110, 111, 112, 113, 114, 115, 116] (by decide +kernel) (by decide +kernel)
set_option maxRecDepth 20000 in
theorem gX5_drawn_X2_become : GoodIn wsX5_drawn (wsV RX5 123 RX2 yX2_become wsX2_become) := goodIn_app (goodIn_of _ (by decide +kernel)) ggX5_drawn_X2_become
set_option maxRecDepth 20000 in
theorem ggX5_drawn_X2_draw : GoodIn wsX5_drawn wsX2_draw := goodIn_r _ [36, 25, 23, 32, 37, 38, 39, 20, 40, 31, 109, 110, 111, 112, 113, 114, 115, 116] (by decide +kernel) (by decide +kernel)
set_option maxRecDepth 20000 in
theorem gX5_drawn_X2_draw : GoodIn wsX5_drawn (wsV RX5 254 RX2 yX2_draw wsX2_draw) := goodIn_app (goodIn_of _ (by decide +kernel)) ggX5_drawn_X2_draw
set_option maxRecDepth 20000 in
theorem ggX5_drawn_X2_pass : GoodIn wsX5_drawn wsX2_pass := goodIn_r _ [44, 25, 45, 46, 24, 47, 48, 49, 20, 50, 32, 31, 51, 52, 53, 54, 26, 55, 56, 57, 58, 22, 59, 60, 61, 62, 63, 64, 65, 66, 67, 68, 69, 70, 71, 72, 73, 74, 75, 76, 77, 78, 23, 79, 80, 81, 82, 109, 110, 111, 112, 113, 114, 115, 116] (by decide +kernel) (by decide +kernel)
set_option maxRecDepth 20000 in
theorem gX5_drawn_X2_pass : GoodIn wsX5_drawn (wsV RX5 147 RX2 yX2_pass wsX2_pass) := goodIn_app (goodIn_of _ (by decide +kernel)) ggX5_drawn_X2_pass
set_option maxRecDepth 20000 in
theorem ggX5_drawn_X2_howManyAt : GoodIn wsX5_drawn wsX2_howManyAt := goodIn_r _ [86, 87, 88, 89, 20, 90, 25, 32, 91, 92, 93, 94, 95, 96, 97, 109, 110, 111, 112, 113, 114, 115, 116] (by decide +kernel) (by decide +kernel)
set_option maxRecDepth 20000 in
theorem gX5_drawn_X2_howManyAt : GoodIn wsX5_drawn (wsV RX5 151 RX2 yX2_howManyAt wsX2_howManyAt) := goodIn_app (goodIn_of _ (by decide +kernel)) ggX5_drawn_X2_howManyAt
set_option maxRecDepth 20000 in
theorem ggX5_image_X5_outside : GoodIn wsX5_image wsX5_outside := goodIn_r _ [8] (by decide +kernel) (by decide +kernel)
set_option maxRecDepth 20000 in
theorem gX5_image_X5_outside : GoodIn wsX5_image (va_wsS RX5 69 yX5_outside wsX5_outside) := goodIn_app (goodIn_of _ (by decide +kernel)) ggX5_image_X5_outside
set_option maxRecDepth 20000 in
theorem ggX5_image_X5_noStair : GoodIn wsX5_image wsX5_noStair := goodIn_r _ [12, 4, 13, 30, 31, 32, 33, 34, 35, 36, 37, 38, 39, 40, 41, 42, 43, 44, 45, 46, 47, 48] (by decide +kernel) (by decide +kernel)
set_option maxRecDepth 20000 in
theorem gX5_image_X5_noStair : GoodIn wsX5_image (wsV RX5 136 RX5 yX5_noStair wsX5_noStair) := goodIn_app (goodIn_of _ (by decide +kernel)) ggX5_image_X5_noStair
set_option maxRecDepth 20000 in
theorem ggX5_image_X2_become : GoodIn wsX5_image wsX2_become := goodIn_r _ [18, 19, 20, 21, 22, 23, 24, 25, 26, 27, 28, 29, 41, 42, 43, 44, 45, 46, 47, 48] (by decide +kernel) (by decide +kernel)
set_option maxRecDepth 20000 in
theorem gX5_image_X2_become : GoodIn wsX5_image (wsV RX5 123 RX2 yX2_become wsX2_become) := goodIn_app (goodIn_of _ (by decide +kernel)) ggX5_image_X2_become
set_option maxRecDepth 20000 in
theorem ggX5_restore_X5_outside : GoodIn wsX5_restore wsX5_outside := goodIn_r _ [10] (by decide +kernel) (by decide +kernel)
set_option maxRecDepth 20000 in
theorem gX5_restore_X5_outside : GoodIn wsX5_restore (va_wsS RX5 69 yX5_outside wsX5_outside) := goodIn_app (goodIn_of _ (by decide +kernel)) ggX5_restore_X5_outside
set_option maxRecDepth 20000 in
theorem ggX5_restore_X2_become : GoodIn wsX5_restore wsX2_become := goodIn_r _ [15, 16, 17, 18, 19, 20, 21, 22, 23, 24, 25, 26, 44, 45, 46, 47, 48, 49, 50, 51] (by decide +kernel) (by decide +kernel)
set_option maxRecDepth 20000 in
theorem gX5_restore_X2_become : GoodIn wsX5_restore (wsV RX5 123 RX2 yX2_become wsX2_become) := goodIn_app (goodIn_of _ (by decide +kernel)) ggX5_restore_X2_become
set_option maxRecDepth 20000 in
theorem ggX5_restore_X0_forgetAll : GoodIn wsX5_restore wsX0_forgetAll := goodIn_r _ [31, 32, 52, 53, 54] (by decide +kernel) (by decide +kernel)
set_option maxRecDepth 20000 in
theorem gX5_restore_X0_forgetAll : GoodIn wsX5_restore (wsV RX5 127 RX0 yX0_forgetAll wsX0_forgetAll) := goodIn_app (goodIn_of _ (by decide +kernel)) ggX5_restore_X0_forgetAll
set_option maxRecDepth 20000 in
theorem ggX5_kind_X5_noRider : GoodIn wsX5_kind wsX5_noRider := goodIn_r _ [8, 2, 9, 10, 11, 7, 12, 13, 14, 15, 16, 17, 18, 19, 20, 21, 22, 23, 24, 25, 26, 27, 28, 29, 30, 31] (by decide +kernel) (by decide +kernel)
set_option maxRecDepth 20000 in
theorem gX5_kind_X5_noRider : GoodIn wsX5_kind (wsV RX5 157 RX5 yX5_noRider wsX5_noRider) := goodIn_app (goodIn_of _ (by decide +kernel)) ggX5_kind_X5_noRider
set_option maxRecDepth 20000 in
theorem ggX5_as_X5_noRider : GoodIn wsX5_as wsX5_noRider := goodIn_r _ [9, 2, 10, 11, 12, 8, 13, 24, 25, 26, 27, 28, 29, 30, 31, 32, 33, 34, 35, 36, 37, 38, 39, 40, 41, 42] (by decide +kernel) (by decide +kernel)
set_option maxRecDepth 20000 in
theorem gX5_as_X5_noRider : GoodIn wsX5_as (wsV RX5 157 RX5 yX5_noRider wsX5_noRider) := goodIn_app (goodIn_of _ (by decide +kernel)) ggX5_as_X5_noRider
set_option maxRecDepth 20000 in
theorem ggX5_as_X5_outside : GoodIn wsX5_as wsX5_outside := goodIn_r _ [13] (by decide +kernel) (by decide +kernel)
set_option maxRecDepth 20000 in
theorem gX5_as_X5_outside : GoodIn wsX5_as (va_wsS RX5 69 yX5_outside wsX5_outside) := goodIn_app (goodIn_of _ (by decide +kernel)) ggX5_as_X5_outside
set_option maxRecDepth 20000 in
theorem ggX5_as_X5_fine : GoodIn wsX5_as wsX5_fine := goodIn_r _ [17, 18, 24, 25, 26, 27, 28, 29, 30, 31, 32, 33, 34] (by decide +kernel) (by decide +kernel)
set_option maxRecDepth 20000 in
theorem gX5_as_X5_fine : GoodIn wsX5_as (wsV RX5 82 RX5 yX5_fine wsX5_fine) := goodIn_app (goodIn_of _ (by decide +kernel)) ggX5_as_X5_fine
set_option maxRecDepth 20000 in
theorem ggX5_as_X5_found : GoodIn wsX5_as wsX5_found := goodIn_r _ [22, 18, 23, 24, 25, 26, 27, 28, 29, 30, 31, 32, 33, 34] (by decide +kernel) (by decide +kernel)
set_option maxRecDepth 20000 in
theorem gX5_as_X5_found : GoodIn wsX5_as (wsV RX5 74 RX5 yX5_found wsX5_found) := goodIn_app (goodIn_of _ (by decide +kernel)) ggX5_as_X5_found
set_option maxRecDepth 20000 in
theorem ggX5_ask_X5_noRider : GoodIn wsX5_ask wsX5_noRider := goodIn_r _ [10, 4, 11, 12, 13, 9, 14, 33, 34, 35, 36, 37, 38, 39, 40, 41, 42, 43, 46, 47, 48, 49, 50, 51, 52, 53] (by decide +kernel) (by decide +kernel)
set_option maxRecDepth 20000 in
theorem gX5_ask_X5_noRider : GoodIn wsX5_ask (wsV RX5 157 RX5 yX5_noRider wsX5_noRider) := goodIn_app (goodIn_of _ (by decide +kernel)) ggX5_ask_X5_noRider
set_option maxRecDepth 20000 in
theorem ggX5_ask_X5_outside : GoodIn wsX5_ask wsX5_outside := goodIn_r _ [14] (by decide +kernel) (by decide +kernel)
set_option maxRecDepth 20000 in
theorem gX5_ask_X5_outside : GoodIn wsX5_ask (va_wsS RX5 69 yX5_outside wsX5_outside) := goodIn_app (goodIn_of _ (by decide +kernel)) ggX5_ask_X5_outside
set_option maxRecDepth 20000 in
theorem ggX5_ask_X5_bodyFor : GoodIn wsX5_ask wsX5_bodyFor := goodIn_r _ [17, 18, 19, 20] (by decide +kernel) (by decide +kernel)
set_option maxRecDepth 20000 in
theorem gX5_ask_X5_bodyFor : GoodIn wsX5_ask (va_wsS RX5 264 yX5_bodyFor wsX5_bodyFor) := goodIn_app (goodIn_of _ (by decide +kernel)) ggX5_ask_X5_bodyFor
set_option maxRecDepth 20000 in
theorem ggX5_ask_X5_answerOf : GoodIn wsX5_ask wsX5_answerOf := goodIn_r _ [23, 24, 5, 25, 26, 27, 28, 29, 30, 31, 32, 21, 22, 9, 15, 16, 17, 18, 19, 20, 46, 47, 48, 49, 50, 51, 52, 53, 44, 45] (by decide +kernel) (by decide +kernel)
set_option maxRecDepth 20000 in
theorem gX5_ask_X5_answerOf : GoodIn wsX5_ask (va_wsS RX5 267 yX5_answerOf wsX5_answerOf) := goodIn_app (goodIn_of _ (by decide +kernel)) ggX5_ask_X5_answerOf
set_option maxRecDepth 20000 in
theorem ggX5_trace_X5_outside : GoodIn wsX5_trace wsX5_outside := goodIn_r _ [8] (by decide +kernel) (by decide +kernel)
set_option maxRecDepth 20000 in
theorem gX5_trace_X5_outside : GoodIn wsX5_trace (va_wsS RX5 69 yX5_outside wsX5_outside) := goodIn_app (goodIn_of _ (by decide +kernel)) ggX5_trace_X5_outside
set_option maxRecDepth 20000 in
theorem ggX5_count_X5_howManyRows : GoodIn wsX5_count wsX5_howManyRows := goodIn_r _ [15, 16, 17, 18, 19, 14, 20, 39, 40, 41, 42, 43, 44, 45, 46, 47, 48, 49, 64, 65, 66, 67] (by decide +kernel) (by decide +kernel)
set_option maxRecDepth 20000 in
theorem gX5_count_X5_howManyRows : GoodIn wsX5_count (wsV RX5 274 RX5 yX5_howManyRows wsX5_howManyRows) := goodIn_app (goodIn_of _ (by decide +kernel)) ggX5_count_X5_howManyRows
set_option maxRecDepth 20000 in
theorem ggX5_count_X2_howManyAt : GoodIn wsX5_count wsX2_howManyAt := goodIn_r _ [25, 26, 27, 28, 24, 29, 30, 31, 32, 33, 34, 35, 36, 37, 38, 50, 51, 52, 53, 54, 55, 56, 57] (by decide +kernel) (by decide +kernel)
set_option maxRecDepth 20000 in
theorem gX5_count_X2_howManyAt : GoodIn wsX5_count (wsV RX5 151 RX2 yX2_howManyAt wsX2_howManyAt) := goodIn_app (goodIn_of _ (by decide +kernel)) ggX5_count_X2_howManyAt
set_option maxRecDepth 20000 in
theorem ggX5_noRow_X5_outside : GoodIn wsX5_noRow wsX5_outside := goodIn_r _ [4] (by decide +kernel) (by decide +kernel)
set_option maxRecDepth 20000 in
theorem gX5_noRow_X5_outside : GoodIn wsX5_noRow (va_wsS RX5 69 yX5_outside wsX5_outside) := goodIn_app (goodIn_of _ (by decide +kernel)) ggX5_noRow_X5_outside
set_option maxRecDepth 20000 in
theorem ggX5_noRider_X5_outside : GoodIn wsX5_noRider wsX5_outside := goodIn_r _ [6] (by decide +kernel) (by decide +kernel)
set_option maxRecDepth 20000 in
theorem gX5_noRider_X5_outside : GoodIn wsX5_noRider (va_wsS RX5 69 yX5_outside wsX5_outside) := goodIn_app (goodIn_of _ (by decide +kernel)) ggX5_noRider_X5_outside
set_option maxRecDepth 20000 in
theorem ggX5_howManyRows_X5_oneIf : GoodIn wsX5_howManyRows wsX5_oneIf := goodIn_r _ [6] (by decide +kernel) (by decide +kernel)
set_option maxRecDepth 20000 in
theorem gX5_howManyRows_X5_oneIf : GoodIn wsX5_howManyRows (va_wsS RX5 181 yX5_oneIf wsX5_oneIf) := goodIn_app (goodIn_of _ (by decide +kernel)) ggX5_howManyRows_X5_oneIf
set_option maxRecDepth 20000 in
theorem ggX5_tryTicks_X2_become : GoodIn wsX5_tryTicks wsX2_become := goodIn_r _ [7, 8, 9, 10, 11, 12, 13, 14, 15, 16, 17, 18, 72, 73, 74, 75, 76, 77, 78, 79] (by decide +kernel) (by decide +kernel)
set_option maxRecDepth 20000 in
theorem gX5_tryTicks_X2_become : GoodIn wsX5_tryTicks (wsV RX5 123 RX2 yX2_become wsX2_become) := goodIn_app (goodIn_of _ (by decide +kernel)) ggX5_tryTicks_X2_become
