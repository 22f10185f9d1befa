set_option maxRecDepth 20000 in
theorem ggX6_ahead_X6_starts : GoodIn wsX6_ahead wsX6_starts := goodIn_r _ [15, 2, 8, 33, 34, 35, 36, 37, 38, 39, 40, 41, 42, 43, 44, 45, 46, 47, 48, 49, 50, 51, 52] (by decide +kernel) (by decide +kernel)
set_option maxRecDepth 20000 in
theorem gX6_ahead_X6_starts : GoodIn wsX6_ahead (wsV RX6 151 RX6 yX6_starts wsX6_starts) := goodIn_app (goodIn_of _ (by decide +kernel)) ggX6_ahead_X6_starts
set_option maxRecDepth 20000 in
theorem ggX6_ahead_X6_tick : GoodIn wsX6_ahead wsX6_tick := goodIn_r _ [19, 20, 21, 22, 6, 23, 24, 25, 26, 9, 10, 11, 27, 28, 29, 30, 31, 32, 33, 34, 35, 36, 37, 38, 39, 40, 41, 42, 43, 44, 45, 46, 47, 48, 49, 50, 51, 52] (by decide +kernel) (by decide +kernel)
set_option maxRecDepth 20000 in
theorem gX6_ahead_X6_tick : GoodIn wsX6_ahead (wsV RX6 140 RX6 yX6_tick wsX6_tick) := goodIn_app (goodIn_of _ (by decide +kernel)) ggX6_ahead_X6_tick
set_option maxRecDepth 20000 in
theorem ggX6_later_X6_isStair : GoodIn wsX6_later wsX6_isStair := goodIn_r _ [9, 4, 37, 38, 39, 40, 41, 42, 43, 44, 45, 46, 47, 48, 49, 50, 51, 52, 53, 54, 55, 56] (by decide +kernel) (by decide +kernel)
set_option maxRecDepth 20000 in
theorem gX6_later_X6_isStair : GoodIn wsX6_later (wsV RX6 133 RX6 yX6_isStair wsX6_isStair) := goodIn_app (goodIn_of _ (by decide +kernel)) ggX6_later_X6_isStair
set_option maxRecDepth 20000 in
theorem ggX6_later_X6_in : GoodIn wsX6_later wsX6_in := goodIn_r _ [12] (by decide +kernel) (by decide +kernel)
set_option maxRecDepth 20000 in
theorem gX6_later_X6_in : GoodIn wsX6_later (va_wsS RX6 50 yX6_in wsX6_in) := goodIn_app (goodIn_of _ (by decide +kernel)) ggX6_later_X6_in
set_option maxRecDepth 20000 in
theorem ggX6_later_X6_starts : GoodIn wsX6_later wsX6_starts := goodIn_r _ [16, 3, 4, 37, 38, 39, 40, 41, 42, 43, 44, 45, 46, 47, 48, 49, 50, 51, 52, 53, 54, 55, 56] (by decide +kernel) (by decide +kernel)
set_option maxRecDepth 20000 in
theorem gX6_later_X6_starts : GoodIn wsX6_later (wsV RX6 151 RX6 yX6_starts wsX6_starts) := goodIn_app (goodIn_of _ (by decide +kernel)) ggX6_later_X6_starts
set_option maxRecDepth 20000 in
theorem ggX6_later_X6_tick : GoodIn wsX6_later wsX6_tick := goodIn_r _ [20, 21, 22, 23, 8, 24, 25, 26, 27, 10, 11, 12, 28, 29, 30, 31, 32, 33, 37, 38, 39, 40, 41, 42, 43, 44, 45, 46, 47, 48, 49, 50, 51, 52, 53, 54, 55, 56] (by decide +kernel) (by decide +kernel)
set_option maxRecDepth 20000 in
theorem gX6_later_X6_tick : GoodIn wsX6_later (wsV RX6 140 RX6 yX6_tick wsX6_tick) := goodIn_app (goodIn_of _ (by decide +kernel)) ggX6_later_X6_tick
set_option maxRecDepth 20000 in
theorem ggX6_later_X6_isOn : GoodIn wsX6_later wsX6_isOn := goodIn_r _ [33] (by decide +kernel) (by decide +kernel)
set_option maxRecDepth 20000 in
theorem gX6_later_X6_isOn : GoodIn wsX6_later (va_wsS RX6 130 yX6_isOn wsX6_isOn) := goodIn_app (goodIn_of _ (by decide +kernel)) ggX6_later_X6_isOn
set_option maxRecDepth 20000 in
theorem ggX6_later_X6_offIn : GoodIn wsX6_later wsX6_offIn := goodIn_r _ [36] (by decide +kernel) (by decide +kernel)
set_option maxRecDepth 20000 in
theorem gX6_later_X6_offIn : GoodIn wsX6_later (va_wsS RX6 144 yX6_offIn wsX6_offIn) := goodIn_app (goodIn_of _ (by decide +kernel)) ggX6_later_X6_offIn
set_option maxRecDepth 20000 in
theorem ggX6_off_X6_isRider : GoodIn wsX6_off wsX6_isRider := goodIn_r _ [8, 9, 10, 11, 7, 12, 34, 35, 36, 37, 38, 39, 40, 41, 42, 43, 44, 45, 46, 47, 48, 49, 50, 51, 52, 53] (by decide +kernel) (by decide +kernel)
set_option maxRecDepth 20000 in
theorem gX6_off_X6_isRider : GoodIn wsX6_off (wsV RX6 148 RX6 yX6_isRider wsX6_isRider) := goodIn_app (goodIn_of _ (by decide +kernel)) ggX6_off_X6_isRider
set_option maxRecDepth 20000 in
theorem ggX6_off_X6_starts : GoodIn wsX6_off wsX6_starts := goodIn_r _ [16, 2, 9, 34, 35, 36, 37, 38, 39, 40, 41, 42, 43, 44, 45, 46, 47, 48, 49, 50, 51, 52, 53] (by decide +kernel) (by decide +kernel)
set_option maxRecDepth 20000 in
theorem gX6_off_X6_starts : GoodIn wsX6_off (wsV RX6 151 RX6 yX6_starts wsX6_starts) := goodIn_app (goodIn_of _ (by decide +kernel)) ggX6_off_X6_starts
set_option maxRecDepth 20000 in
theorem ggX6_off_X6_tick : GoodIn wsX6_off wsX6_tick := goodIn_r _ [20, 21, 22, 23, 7, 24, 25, 26, 27, 10, 11, 12, 28, 29, 30, 31, 32, 33, 34, 35, 36, 37, 38, 39, 40, 41, 42, 43, 44, 45, 46, 47, 48, 49, 50, 51, 52, 53] (by decide +kernel) (by decide +kernel)
set_option maxRecDepth 20000 in
theorem gX6_off_X6_tick : GoodIn wsX6_off (wsV RX6 140 RX6 yX6_tick wsX6_tick) := goodIn_app (goodIn_of _ (by decide +kernel)) ggX6_off_X6_tick
set_option maxRecDepth 20000 in
theorem ggX6_clears_X6_offIn : GoodIn wsX6_clears wsX6_offIn := goodIn_r _ [6] (by decide +kernel) (by decide +kernel)
set_option maxRecDepth 20000 in
theorem gX6_clears_X6_offIn : GoodIn wsX6_clears (va_wsS RX6 144 yX6_offIn wsX6_offIn) := goodIn_app (goodIn_of _ (by decide +kernel)) ggX6_clears_X6_offIn
set_option maxRecDepth 20000 in
theorem ggX6_clears_X6_tick : GoodIn wsX6_clears wsX6_tick := goodIn_r _ [10, 11, 12, 13, 5, 14, 15, 16, 17, 18, 19, 20, 21, 22, 23, 24, 25, 26, 27, 28, 29, 30, 31, 32, 33, 34, 35, 36, 37, 38, 39, 40, 41, 42, 43, 44, 45, 46] (by decide +kernel) (by decide +kernel)
set_option maxRecDepth 20000 in
theorem gX6_clears_X6_tick : GoodIn wsX6_clears (wsV RX6 140 RX6 yX6_tick wsX6_tick) := goodIn_app (goodIn_of _ (by decide +kernel)) ggX6_clears_X6_tick
set_option maxRecDepth 20000 in
theorem ggX6_clear_X6_isStair : GoodIn wsX6_clear wsX6_isStair := goodIn_r _ [6, 7, 41, 42, 43, 44, 45, 46, 47, 48, 49, 50, 51, 52, 53, 54, 55, 56, 57, 58, 59, 60] (by decide +kernel) (by decide +kernel)
set_option maxRecDepth 20000 in
theorem gX6_clear_X6_isStair : GoodIn wsX6_clear (wsV RX6 133 RX6 yX6_isStair wsX6_isStair) := goodIn_app (goodIn_of _ (by decide +kernel)) ggX6_clear_X6_isStair
set_option maxRecDepth 20000 in
theorem ggX6_clear_X6_starts : GoodIn wsX6_clear wsX6_starts := goodIn_r _ [11, 12, 7, 41, 42, 43, 44, 45, 46, 47, 48, 49, 50, 51, 52, 53, 54, 55, 56, 57, 58, 59, 60] (by decide +kernel) (by decide +kernel)
set_option maxRecDepth 20000 in
theorem gX6_clear_X6_starts : GoodIn wsX6_clear (wsV RX6 151 RX6 yX6_starts wsX6_starts) := goodIn_app (goodIn_of _ (by decide +kernel)) ggX6_clear_X6_starts
set_option maxRecDepth 20000 in
theorem ggX6_clear_X6_clears : GoodIn wsX6_clear wsX6_clears := goodIn_r _ [16, 12, 17, 18, 19, 5, 20, 21, 22, 23, 24, 25, 26, 27, 28, 29, 30, 31, 32, 33, 34, 35, 36, 37, 38, 39, 40, 41, 42, 43, 44, 45, 46, 47, 48, 49, 50, 51, 52, 53, 54, 55, 56, 57, 58, 59, 60] (by decide +kernel) (by decide +kernel)
set_option maxRecDepth 20000 in
theorem gX6_clear_X6_clears : GoodIn wsX6_clear (wsV RX6 155 RX6 yX6_clears wsX6_clears) := goodIn_app (goodIn_of _ (by decide +kernel)) ggX6_clear_X6_clears
set_option maxRecDepth 20000 in
theorem ggX6_sorting_X6_isStair : GoodIn wsX6_sorting wsX6_isStair := goodIn_r _ [10, 4, 49, 50, 51, 52, 53, 54, 55, 56, 57, 58, 59, 60, 61, 62, 63, 64, 65, 66, 67, 68] (by decide +kernel) (by decide +kernel)
set_option maxRecDepth 20000 in
theorem gX6_sorting_X6_isStair : GoodIn wsX6_sorting (wsV RX6 133 RX6 yX6_isStair wsX6_isStair) := goodIn_app (goodIn_of _ (by decide +kernel)) ggX6_sorting_X6_isStair
set_option maxRecDepth 20000 in
theorem ggX6_sorting_X6_in : GoodIn wsX6_sorting wsX6_in := goodIn_r _ [13] (by decide +kernel) (by decide +kernel)
set_option maxRecDepth 20000 in
theorem gX6_sorting_X6_in : GoodIn wsX6_sorting (va_wsS RX6 50 yX6_in wsX6_in) := goodIn_app (goodIn_of _ (by decide +kernel)) ggX6_sorting_X6_in
set_option maxRecDepth 20000 in
theorem ggX6_sorting_X6_queued : GoodIn wsX6_sorting wsX6_queued := goodIn_r _ [17, 4, 49, 50, 51, 52, 53, 54, 55, 56, 57, 58, 59, 60, 61, 62, 63, 64, 65, 66, 67, 68] (by decide +kernel) (by decide +kernel)
set_option maxRecDepth 20000 in
theorem gX6_sorting_X6_queued : GoodIn wsX6_sorting (wsV RX6 159 RX6 yX6_queued wsX6_queued) := goodIn_app (goodIn_of _ (by decide +kernel)) ggX6_sorting_X6_queued
set_option maxRecDepth 20000 in
theorem ggX6_sorting_X6_starts : GoodIn wsX6_sorting wsX6_starts := goodIn_r _ [21, 5, 4, 49, 50, 51, 52, 53, 54, 55, 56, 57, 58, 59, 60, 61, 62, 63, 64, 65, 66, 67, 68] (by decide +kernel) (by decide +kernel)
set_option maxRecDepth 20000 in
theorem gX6_sorting_X6_starts : GoodIn wsX6_sorting (wsV RX6 151 RX6 yX6_starts wsX6_starts) := goodIn_app (goodIn_of _ (by decide +kernel)) ggX6_sorting_X6_starts
set_option maxRecDepth 20000 in
theorem ggX6_sorting_X6_has : GoodIn wsX6_sorting wsX6_has := goodIn_r _ [24] (by decide +kernel) (by decide +kernel)
set_option maxRecDepth 20000 in
theorem gX6_sorting_X6_has : GoodIn wsX6_sorting (va_wsS RX6 162 yX6_has wsX6_has) := goodIn_app (goodIn_of _ (by decide +kernel)) ggX6_sorting_X6_has
set_option maxRecDepth 20000 in
theorem ggX6_sorting_X6_clears : GoodIn wsX6_sorting wsX6_clears := goodIn_r _ [28, 5, 3, 29, 30, 9, 31, 32, 33, 34, 35, 36, 37, 38, 39, 40, 41, 42, 11, 12, 13, 43, 44, 45, 46, 47, 48, 49, 50, 51, 52, 53, 54, 55, 56, 57, 58, 59, 60, 61, 62, 63, 64, 65, 66, 67, 68] (by decide +kernel) (by decide +kernel)
set_option maxRecDepth 20000 in
theorem gX6_sorting_X6_clears : GoodIn wsX6_sorting (wsV RX6 155 RX6 yX6_clears wsX6_clears) := goodIn_app (goodIn_of _ (by decide +kernel)) ggX6_sorting_X6_clears
set_option maxRecDepth 20000 in
theorem ggX6_taken_X6_isStair : GoodIn wsX6_taken wsX6_isStair := goodIn_r _ [10, 4, 42, 43, 44, 45, 46, 47, 48, 49, 50, 51, 52, 53, 54, 55, 56, 57, 58, 59, 60, 61] (by decide +kernel) (by decide +kernel)
set_option maxRecDepth 20000 in
theorem gX6_taken_X6_isStair : GoodIn wsX6_taken (wsV RX6 133 RX6 yX6_isStair wsX6_isStair) := goodIn_app (goodIn_of _ (by decide +kernel)) ggX6_taken_X6_isStair
set_option maxRecDepth 20000 in
theorem ggX6_taken_X6_in : GoodIn wsX6_taken wsX6_in := goodIn_r _ [13] (by decide +kernel) (by decide +kernel)
set_option maxRecDepth 20000 in
theorem gX6_taken_X6_in : GoodIn wsX6_taken (va_wsS RX6 50 yX6_in wsX6_in) := goodIn_app (goodIn_of _ (by decide +kernel)) ggX6_taken_X6_in
set_option maxRecDepth 20000 in
theorem ggX6_taken_X6_starts : GoodIn wsX6_taken wsX6_starts := goodIn_r _ [17, 5, 4, 42, 43, 44, 45, 46, 47, 48, 49, 50, 51, 52, 53, 54, 55, 56, 57, 58, 59, 60, 61] (by decide +kernel) (by decide +kernel)
set_option maxRecDepth 20000 in
theorem gX6_taken_X6_starts : GoodIn wsX6_taken (wsV RX6 151 RX6 yX6_starts wsX6_starts) := goodIn_app (goodIn_of _ (by decide +kernel)) ggX6_taken_X6_starts
set_option maxRecDepth 20000 in
theorem ggX6_taken_X6_clears : GoodIn wsX6_taken wsX6_clears := goodIn_r _ [21, 5, 3, 22, 23, 9, 24, 25, 26, 27, 28, 29, 30, 31, 32, 33, 34, 35, 11, 12, 13, 36, 37, 38, 39, 40, 41, 42, 43, 44, 45, 46, 47, 48, 49, 50, 51, 52, 53, 54, 55, 56, 57, 58, 59, 60, 61] (by decide +kernel) (by decide +kernel)
set_option maxRecDepth 20000 in
theorem gX6_taken_X6_clears : GoodIn wsX6_taken (wsV RX6 155 RX6 yX6_clears wsX6_clears) := goodIn_app (goodIn_of _ (by decide +kernel)) ggX6_taken_X6_clears
set_option maxRecDepth 20000 in
theorem ggX6_pace_X6_isRider : GoodIn wsX6_pace wsX6_isRider := goodIn_r _ [8, 9, 10, 11, 7, 12, 34, 35, 36, 37, 38, 39, 40, 41, 42, 43, 44, 45, 46, 47, 48, 49, 50, 51, 52, 53] (by decide +kernel) (by decide +kernel)
set_option maxRecDepth 20000 in
theorem gX6_pace_X6_isRider : GoodIn wsX6_pace (wsV RX6 148 RX6 yX6_isRider wsX6_isRider) := goodIn_app (goodIn_of _ (by decide +kernel)) ggX6_pace_X6_isRider
set_option maxRecDepth 20000 in
theorem ggX6_pace_X6_in : GoodIn wsX6_pace wsX6_in := goodIn_r _ [12] (by decide +kernel) (by decide +kernel)
set_option maxRecDepth 20000 in
theorem gX6_pace_X6_in : GoodIn wsX6_pace (va_wsS RX6 50 yX6_in wsX6_in) := goodIn_app (goodIn_of _ (by decide +kernel)) ggX6_pace_X6_in
set_option maxRecDepth 20000 in
theorem ggX6_pace_X6_starts : GoodIn wsX6_pace wsX6_starts := goodIn_r _ [16, 3, 9, 34, 35, 36, 37, 38, 39, 40, 41, 42, 43, 44, 45, 46, 47, 48, 49, 50, 51, 52, 53] (by decide +kernel) (by decide +kernel)
set_option maxRecDepth 20000 in
theorem gX6_pace_X6_starts : GoodIn wsX6_pace (wsV RX6 151 RX6 yX6_starts wsX6_starts) := goodIn_app (goodIn_of _ (by decide +kernel)) ggX6_pace_X6_starts
set_option maxRecDepth 20000 in
theorem ggX6_pace_X6_tick : GoodIn wsX6_pace wsX6_tick := goodIn_r _ [20, 21, 22, 23, 7, 24, 25, 26, 27, 10, 11, 12, 28, 29, 30, 31, 32, 33, 34, 35, 36, 37, 38, 39, 40, 41, 42, 43, 44, 45, 46, 47, 48, 49, 50, 51, 52, 53] (by decide +kernel) (by decide +kernel)
set_option maxRecDepth 20000 in
theorem gX6_pace_X6_tick : GoodIn wsX6_pace (wsV RX6 140 RX6 yX6_tick wsX6_tick) := goodIn_app (goodIn_of _ (by decide +kernel)) ggX6_pace_X6_tick
set_option maxRecDepth 20000 in
theorem ggX6_isSo_X6_tick : GoodIn wsX6_isSo wsX6_tick := goodIn_r _ [7, 8, 9, 10, 6, 11, 12, 13, 14, 15, 16, 17, 18, 19, 20, 21, 22, 23, 24, 25, 26, 27, 28, 29, 30, 31, 32, 33, 34, 35, 36, 37, 38, 39, 40, 41, 42, 43] (by decide +kernel) (by decide +kernel)
set_option maxRecDepth 20000 in
theorem gX6_isSo_X6_tick : GoodIn wsX6_isSo (wsV RX6 140 RX6 yX6_tick wsX6_tick) := goodIn_app (goodIn_of _ (by decide +kernel)) ggX6_isSo_X6_tick
set_option maxRecDepth 20000 in
theorem ggX6_fits_X6_isRider : GoodIn wsX6_fits wsX6_isRider := goodIn_r _ [11, 5, 12, 13, 10, 14, 55, 56, 57, 58, 59, 60, 61, 62, 63, 64, 65, 66, 67, 68, 69, 70, 71, 72, 73, 74] (by decide +kernel) (by decide +kernel)
set_option maxRecDepth 20000 in
theorem gX6_fits_X6_isRider : GoodIn wsX6_fits (wsV RX6 148 RX6 yX6_isRider wsX6_isRider) := goodIn_app (goodIn_of _ (by decide +kernel)) ggX6_fits_X6_isRider
set_option maxRecDepth 20000 in
theorem ggX6_fits_X6_isRow : GoodIn wsX6_fits wsX6_isRow := goodIn_r _ [17, 12, 13, 10, 14] (by decide +kernel) (by decide +kernel)
set_option maxRecDepth 20000 in
theorem gX6_fits_X6_isRow : GoodIn wsX6_fits (va_wsS RX6 61 yX6_isRow wsX6_isRow) := goodIn_app (goodIn_of _ (by decide +kernel)) ggX6_fits_X6_isRow
set_option maxRecDepth 20000 in
theorem ggX6_fits_X6_in : GoodIn wsX6_fits wsX6_in := goodIn_r _ [14] (by decide +kernel) (by decide +kernel)
set_option maxRecDepth 20000 in
theorem gX6_fits_X6_in : GoodIn wsX6_fits (va_wsS RX6 50 yX6_in wsX6_in) := goodIn_app (goodIn_of _ (by decide +kernel)) ggX6_fits_X6_in
set_option maxRecDepth 20000 in
theorem ggX6_fits_X6_ends : GoodIn wsX6_fits wsX6_ends := goodIn_r _ [21, 22, 3, 23, 24, 12, 13, 10, 14, 55, 56, 57, 58, 59, 60, 61, 62, 63, 64, 65, 66, 67, 68, 69, 70, 71, 72, 73, 74] (by decide +kernel) (by decide +kernel)
set_option maxRecDepth 20000 in
theorem gX6_fits_X6_ends : GoodIn wsX6_fits (wsV RX6 67 RX6 yX6_ends wsX6_ends) := goodIn_app (goodIn_of _ (by decide +kernel)) ggX6_fits_X6_ends
set_option maxRecDepth 20000 in
theorem ggX6_fits_X6_lies : GoodIn wsX6_fits wsX6_lies := goodIn_r _ [28, 2, 55, 56, 57, 58, 59, 60, 61, 62, 63, 64, 65, 66, 67, 68, 69, 70, 71, 72, 73, 74] (by decide +kernel) (by decide +kernel)
set_option maxRecDepth 20000 in
theorem gX6_fits_X6_lies : GoodIn wsX6_fits (wsV RX6 71 RX6 yX6_lies wsX6_lies) := goodIn_app (goodIn_of _ (by decide +kernel)) ggX6_fits_X6_lies
set_option maxRecDepth 20000 in
theorem ggX6_fits_X6_isOn : GoodIn wsX6_fits wsX6_isOn := goodIn_r _ [31] (by decide +kernel) (by decide +kernel)
set_option maxRecDepth 20000 in
theorem gX6_fits_X6_isOn : GoodIn wsX6_fits (va_wsS RX6 130 yX6_isOn wsX6_isOn) := goodIn_app (goodIn_of _ (by decide +kernel)) ggX6_fits_X6_isOn
set_option maxRecDepth 20000 in
theorem ggX6_fits_X6_starts : GoodIn wsX6_fits wsX6_starts := goodIn_r _ [35, 6, 5, 55, 56, 57, 58, 59, 60, 61, 62, 63, 64, 65, 66, 67, 68, 69, 70, 71, 72, 73, 74] (by decide +kernel) (by decide +kernel)
set_option maxRecDepth 20000 in
theorem gX6_fits_X6_starts : GoodIn wsX6_fits (wsV RX6 151 RX6 yX6_starts wsX6_starts) := goodIn_app (goodIn_of _ (by decide +kernel)) ggX6_fits_X6_starts
set_option maxRecDepth 20000 in
theorem ggX6_fits_X6_isFree : GoodIn wsX6_fits wsX6_isFree := goodIn_r _ [38] (by decide +kernel) (by decide +kernel)
set_option maxRecDepth 20000 in
theorem gX6_fits_X6_isFree : GoodIn wsX6_fits (va_wsS RX6 118 yX6_isFree wsX6_isFree) := goodIn_app (goodIn_of _ (by decide +kernel)) ggX6_fits_X6_isFree
set_option maxRecDepth 20000 in
theorem ggX6_fits_X6_isSo : GoodIn wsX6_fits wsX6_isSo := goodIn_r _ [42, 6, 43, 44, 45, 46, 10, 47, 48, 49, 50, 51, 52, 53, 54, 12, 13, 14, 36, 37, 38, 29, 30, 31, 55, 56, 57, 58, 59, 60, 61, 62, 63, 64, 65, 66, 67, 68, 69, 70, 71, 72, 73, 74] (by decide +kernel) (by decide +kernel)
set_option maxRecDepth 20000 in
theorem gX6_fits_X6_isSo : GoodIn wsX6_fits (wsV RX6 166 RX6 yX6_isSo wsX6_isSo) := goodIn_app (goodIn_of _ (by decide +kernel)) ggX6_fits_X6_isSo
set_option maxRecDepth 20000 in
theorem ggX6_absent_X6_isRider : GoodIn wsX6_absent wsX6_isRider := goodIn_r _ [8, 2, 9, 10, 7, 11, 40, 41, 42, 43, 44, 45, 46, 47, 48, 49, 50, 51, 52, 53, 54, 55, 56, 57, 58, 59] (by decide +kernel) (by decide +kernel)
set_option maxRecDepth 20000 in
theorem gX6_absent_X6_isRider : GoodIn wsX6_absent (wsV RX6 148 RX6 yX6_isRider wsX6_isRider) := goodIn_app (goodIn_of _ (by decide +kernel)) ggX6_absent_X6_isRider
set_option maxRecDepth 20000 in
theorem ggX6_absent_X6_in : GoodIn wsX6_absent wsX6_in := goodIn_r _ [11] (by decide +kernel) (by decide +kernel)
set_option maxRecDepth 20000 in
theorem gX6_absent_X6_in : GoodIn wsX6_absent (va_wsS RX6 50 yX6_in wsX6_in) := goodIn_app (goodIn_of _ (by decide +kernel)) ggX6_absent_X6_in
set_option maxRecDepth 20000 in
theorem ggX6_absent_X6_queued : GoodIn wsX6_absent wsX6_queued := goodIn_r _ [15, 2, 40, 41, 42, 43, 44, 45, 46, 47, 48, 49, 50, 51, 52, 53, 54, 55, 56, 57, 58, 59] (by decide +kernel) (by decide +kernel)
set_option maxRecDepth 20000 in
theorem gX6_absent_X6_queued : GoodIn wsX6_absent (wsV RX6 159 RX6 yX6_queued wsX6_queued) := goodIn_app (goodIn_of _ (by decide +kernel)) ggX6_absent_X6_queued
set_option maxRecDepth 20000 in
theorem ggX6_absent_X6_starts : GoodIn wsX6_absent wsX6_starts := goodIn_r _ [19, 3, 2, 40, 41, 42, 43, 44, 45, 46, 47, 48, 49, 50, 51, 52, 53, 54, 55, 56, 57, 58, 59] (by decide +kernel) (by decide +kernel)
set_option maxRecDepth 20000 in
theorem gX6_absent_X6_starts : GoodIn wsX6_absent (wsV RX6 151 RX6 yX6_starts wsX6_starts) := goodIn_app (goodIn_of _ (by decide +kernel)) ggX6_absent_X6_starts
set_option maxRecDepth 20000 in
theorem ggX6_absent_X6_has : GoodIn wsX6_absent wsX6_has := goodIn_r _ [22] (by decide +kernel) (by decide +kernel)
set_option maxRecDepth 20000 in
theorem gX6_absent_X6_has : GoodIn wsX6_absent (va_wsS RX6 162 yX6_has wsX6_has) := goodIn_app (goodIn_of _ (by decide +kernel)) ggX6_absent_X6_has
set_option maxRecDepth 20000 in
theorem ggX6_absent_X6_tick : GoodIn wsX6_absent wsX6_tick := goodIn_r _ [26, 27, 28, 29, 7, 30, 31, 32, 33, 9, 10, 11, 34, 35, 36, 37, 38, 39, 40, 41, 42, 43, 44, 45, 46, 47, 48, 49, 50, 51, 52, 53, 54, 55, 56, 57, 58, 59] (by decide +kernel) (by decide +kernel)
set_option maxRecDepth 20000 in
theorem gX6_absent_X6_tick : GoodIn wsX6_absent (wsV RX6 140 RX6 yX6_tick wsX6_tick) := goodIn_app (goodIn_of _ (by decide +kernel)) ggX6_absent_X6_tick
set_option maxRecDepth 20000 in
theorem ggX6_drawn_X6_isStair : GoodIn wsX6_drawn wsX6_isStair := goodIn_r _ [14, 15, 43, 44, 45, 46, 47, 48, 49, 50, 51, 52, 53, 54, 55, 56, 57, 58, 59, 60, 61, 62] (by decide +kernel) (by decide +kernel)
set_option maxRecDepth 20000 in
theorem gX6_drawn_X6_isStair : GoodIn wsX6_drawn (wsV RX6 133 RX6 yX6_isStair wsX6_isStair) := goodIn_app (goodIn_of _ (by decide +kernel)) ggX6_drawn_X6_isStair
set_option maxRecDepth 20000 in
theorem ggX6_drawn_X6_in : GoodIn wsX6_drawn wsX6_in := goodIn_r _ [18] (by decide +kernel) (by decide +kernel)
set_option maxRecDepth 20000 in
theorem gX6_drawn_X6_in : GoodIn wsX6_drawn (va_wsS RX6 50 yX6_in wsX6_in) := goodIn_app (goodIn_of _ (by decide +kernel)) ggX6_drawn_X6_in
set_option maxRecDepth 20000 in
theorem ggX6_drawn_X6_starts : GoodIn wsX6_drawn wsX6_starts := goodIn_r _ [22, 6, 15, 43, 44, 45, 46, 47, 48, 49, 50, 51, 52, 53, 54, 55, 56, 57, 58, 59, 60, 61, 62] (by decide +kernel) (by decide +kernel)
set_option maxRecDepth 20000 in
theorem gX6_drawn_X6_starts : GoodIn wsX6_drawn (wsV RX6 151 RX6 yX6_starts wsX6_starts) := goodIn_app (goodIn_of _ (by decide +kernel)) ggX6_drawn_X6_starts
set_option maxRecDepth 20000 in
theorem ggX6_drawn_X6_offIn : GoodIn wsX6_drawn wsX6_offIn := goodIn_r _ [25] (by decide +kernel) (by decide +kernel)
set_option maxRecDepth 20000 in
theorem gX6_drawn_X6_offIn : GoodIn wsX6_drawn (va_wsS RX6 144 yX6_offIn wsX6_offIn) := goodIn_app (goodIn_of _ (by decide +kernel)) ggX6_drawn_X6_offIn
set_option maxRecDepth 20000 in
theorem ggX6_drawn_X6_tick : GoodIn wsX6_drawn wsX6_tick := goodIn_r _ [29, 30, 31, 32, 13, 33, 34, 35, 36, 16, 17, 18, 37, 38, 39, 40, 41, 42, 43, 44, 45, 46, 47, 48, 49, 50, 51, 52, 53, 54, 55, 56, 57, 58, 59, 60, 61, 62] (by decide +kernel) (by decide +kernel)
set_option maxRecDepth 20000 in
theorem gX6_drawn_X6_tick : GoodIn wsX6_drawn (wsV RX6 140 RX6 yX6_tick wsX6_tick) := goodIn_app (goodIn_of _ (by decide +kernel)) ggX6_drawn_X6_tick
set_option maxRecDepth 20000 in
theorem ggX6_image_X6_in : GoodIn wsX6_image wsX6_in := goodIn_r _ [9] (by decide +kernel) (by decide +kernel)
set_option maxRecDepth 20000 in
theorem gX6_image_X6_in : GoodIn wsX6_image (va_wsS RX6 50 yX6_in wsX6_in) := goodIn_app (goodIn_of _ (by decide +kernel)) ggX6_image_X6_in
set_option maxRecDepth 20000 in
theorem ggX6_image_X6_isStair : GoodIn wsX6_image wsX6_isStair := goodIn_r _ [13, 4, 14, 15, 16, 17, 18, 19, 20, 21, 22, 23, 24, 25, 26, 27, 28, 29, 30, 31, 32, 33] (by decide +kernel) (by decide +kernel)
set_option maxRecDepth 20000 in
theorem gX6_image_X6_isStair : GoodIn wsX6_image (wsV RX6 133 RX6 yX6_isStair wsX6_isStair) := goodIn_app (goodIn_of _ (by decide +kernel)) ggX6_image_X6_isStair
set_option maxRecDepth 20000 in
theorem ggX6_restore_X6_in : GoodIn wsX6_restore wsX6_in := goodIn_r _ [10] (by decide +kernel) (by decide +kernel)
set_option maxRecDepth 20000 in
theorem gX6_restore_X6_in : GoodIn wsX6_restore (va_wsS RX6 50 yX6_in wsX6_in) := goodIn_app (goodIn_of _ (by decide +kernel)) ggX6_restore_X6_in
set_option maxRecDepth 20000 in
theorem ggX6_kind_X6_isRider : GoodIn wsX6_kind wsX6_isRider := goodIn_r _ [7, 1, 8, 9, 6, 10, 11, 12, 13, 14, 15, 16, 17, 18, 19, 20, 21, 22, 23, 24, 25, 26, 27, 28, 29, 30] (by decide +kernel) (by decide +kernel)
set_option maxRecDepth 20000 in
theorem gX6_kind_X6_isRider : GoodIn wsX6_kind (wsV RX6 148 RX6 yX6_isRider wsX6_isRider) := goodIn_app (goodIn_of _ (by decide +kernel)) ggX6_kind_X6_isRider
set_option maxRecDepth 20000 in
theorem ggX6_as_X6_isRider : GoodIn wsX6_as wsX6_isRider := goodIn_r _ [8, 2, 9, 10, 7, 11, 20, 21, 22, 23, 24, 25, 26, 27, 28, 29, 30, 31, 32, 33, 34, 35, 36, 37, 38, 39] (by decide +kernel) (by decide +kernel)
set_option maxRecDepth 20000 in
theorem gX6_as_X6_isRider : GoodIn wsX6_as (wsV RX6 148 RX6 yX6_isRider wsX6_isRider) := goodIn_app (goodIn_of _ (by decide +kernel)) ggX6_as_X6_isRider
set_option maxRecDepth 20000 in
theorem ggX6_as_X6_in : GoodIn wsX6_as wsX6_in := goodIn_r _ [11] (by decide +kernel) (by decide +kernel)
set_option maxRecDepth 20000 in
theorem gX6_as_X6_in : GoodIn wsX6_as (va_wsS RX6 50 yX6_in wsX6_in) := goodIn_app (goodIn_of _ (by decide +kernel)) ggX6_as_X6_in
set_option maxRecDepth 20000 in
theorem ggX6_as_X6_ends : GoodIn wsX6_as wsX6_ends := goodIn_r _ [15, 16, 17, 18, 19, 9, 10, 7, 11, 20, 21, 22, 23, 24, 25, 26, 27, 28, 29, 30, 31, 32, 33, 34, 35, 36, 37, 38, 39] (by decide +kernel) (by decide +kernel)
set_option maxRecDepth 20000 in
theorem gX6_as_X6_ends : GoodIn wsX6_as (wsV RX6 67 RX6 yX6_ends wsX6_ends) := goodIn_app (goodIn_of _ (by decide +kernel)) ggX6_as_X6_ends
set_option maxRecDepth 20000 in
theorem ggX6_size_X6_begins : GoodIn wsX6_size wsX6_begins := goodIn_r _ [6, 7, 8, 13, 14, 15, 16, 17, 18, 19, 20, 21, 22, 23, 24, 25, 26, 27, 28, 29, 30, 31, 32] (by decide +kernel) (by decide +kernel)
set_option maxRecDepth 20000 in
theorem gX6_size_X6_begins : GoodIn wsX6_size (wsV RX6 184 RX6 yX6_begins wsX6_begins) := goodIn_app (goodIn_of _ (by decide +kernel)) ggX6_size_X6_begins
set_option maxRecDepth 20000 in
theorem ggX6_size_X6_stands : GoodIn wsX6_size wsX6_stands := goodIn_r _ [12, 1, 2, 3, 4, 5, 6, 7, 8, 13, 14, 15, 16, 17, 18, 19, 20, 21, 22, 23, 24, 25, 26, 27, 28, 29, 30, 31, 32] (by decide +kernel) (by decide +kernel)
set_option maxRecDepth 20000 in
theorem gX6_size_X6_stands : GoodIn wsX6_size (wsV RX6 188 RX6 yX6_stands wsX6_stands) := goodIn_app (goodIn_of _ (by decide +kernel)) ggX6_size_X6_stands
set_option maxRecDepth 20000 in
theorem ggX6_stands_X6_begins : GoodIn wsX6_stands wsX6_begins := goodIn_r _ [6, 7, 8, 9, 10, 11, 12, 13, 14, 15, 16, 17, 18, 19, 20, 21, 22, 23, 24, 25, 26, 27, 28] (by decide +kernel) (by decide +kernel)
set_option maxRecDepth 20000 in
theorem gX6_stands_X6_begins : GoodIn wsX6_stands (wsV RX6 184 RX6 yX6_begins wsX6_begins) := goodIn_app (goodIn_of _ (by decide +kernel)) ggX6_stands_X6_begins
set_option maxRecDepth 20000 in
theorem ggX6_ask_X6_isRider : GoodIn wsX6_ask wsX6_isRider := goodIn_r _ [8, 3, 9, 10, 7, 11, 25, 26, 27, 28, 29, 30, 31, 32, 33, 34, 35, 36, 37, 38, 39, 40, 41, 42, 43, 44] (by decide +kernel) (by decide +kernel)
set_option maxRecDepth 20000 in
theorem gX6_ask_X6_isRider : GoodIn wsX6_ask (wsV RX6 148 RX6 yX6_isRider wsX6_isRider) := goodIn_app (goodIn_of _ (by decide +kernel)) ggX6_ask_X6_isRider
set_option maxRecDepth 20000 in
theorem ggX6_ask_X6_in : GoodIn wsX6_ask wsX6_in := goodIn_r _ [11] (by decide +kernel) (by decide +kernel)
set_option maxRecDepth 20000 in
theorem gX6_ask_X6_in : GoodIn wsX6_ask (va_wsS RX6 50 yX6_in wsX6_in) := goodIn_app (goodIn_of _ (by decide +kernel)) ggX6_ask_X6_in
set_option maxRecDepth 20000 in
theorem ggX6_ask_X6_size : GoodIn wsX6_ask wsX6_size := goodIn_r _ [15, 3, 16, 17, 18, 7, 19, 2, 20, 21, 22, 23, 24, 25, 26, 27, 28, 29, 30, 31, 32, 33, 34, 35, 36, 37, 38, 39, 40, 41, 42, 43, 44] (by decide +kernel) (by decide +kernel)
set_option maxRecDepth 20000 in
theorem gX6_ask_X6_size : GoodIn wsX6_ask (wsV RX6 191 RX6 yX6_size wsX6_size) := goodIn_app (goodIn_of _ (by decide +kernel)) ggX6_ask_X6_size
set_option maxRecDepth 20000 in
theorem ggX6_ask_X6_stands : GoodIn wsX6_ask wsX6_stands := goodIn_r _ [24, 3, 16, 17, 18, 7, 19, 2, 20, 25, 26, 27, 28, 29, 30, 31, 32, 33, 34, 35, 36, 37, 38, 39, 40, 41, 42, 43, 44] (by decide +kernel) (by decide +kernel)
set_option maxRecDepth 20000 in
theorem gX6_ask_X6_stands : GoodIn wsX6_ask (wsV RX6 188 RX6 yX6_stands wsX6_stands) := goodIn_app (goodIn_of _ (by decide +kernel)) ggX6_ask_X6_stands
set_option maxRecDepth 20000 in
theorem ggX6_ask_X6_begins : GoodIn wsX6_ask wsX6_begins := goodIn_r _ [19, 2, 20, 25, 26, 27, 28, 29, 30, 31, 32, 33, 34, 35, 36, 37, 38, 39, 40, 41, 42, 43, 44] (by decide +kernel) (by decide +kernel)
set_option maxRecDepth 20000 in
theorem gX6_ask_X6_begins : GoodIn wsX6_ask (wsV RX6 184 RX6 yX6_begins wsX6_begins) := goodIn_app (goodIn_of _ (by decide +kernel)) ggX6_ask_X6_begins
set_option maxRecDepth 20000 in
theorem ggX6_trace_X6_in : GoodIn wsX6_trace wsX6_in := goodIn_r _ [7] (by decide +kernel) (by decide +kernel)
set_option maxRecDepth 20000 in
theorem gX6_trace_X6_in : GoodIn wsX6_trace (va_wsS RX6 50 yX6_in wsX6_in) := goodIn_app (goodIn_of _ (by decide +kernel)) ggX6_trace_X6_in
set_option maxRecDepth 20000 in
theorem ggX6_count_X6_isOn : GoodIn wsX6_count wsX6_isOn := goodIn_r _ [9] (by decide +kernel) (by decide +kernel)
set_option maxRecDepth 20000 in
theorem gX6_count_X6_isOn : GoodIn wsX6_count (va_wsS RX6 130 yX6_isOn wsX6_isOn) := goodIn_app (goodIn_of _ (by decide +kernel)) ggX6_count_X6_isOn
set_option maxRecDepth 20000 in
theorem ggX6_count_X6_offIn : GoodIn wsX6_count wsX6_offIn := goodIn_r _ [12] (by decide +kernel) (by decide +kernel)
set_option maxRecDepth 20000 in
theorem gX6_count_X6_offIn : GoodIn wsX6_count (va_wsS RX6 144 yX6_offIn wsX6_offIn) := goodIn_app (goodIn_of _ (by decide +kernel)) ggX6_count_X6_offIn
