set_option maxRecDepth 20000 in
theorem ggX0_init_X2_init : GoodIn wsX0_init wsX2_init := goodIn_r _ [11, 12, 2, 3, 13, 14, 15, 16, 17, 18, 19, 20, 21, 25, 26, 27, 28, 29, 30, 31, 32] (by decide +kernel) (by decide +kernel)
set_option maxRecDepth 20000 in
theorem gX0_init_X2_init_n24 : GoodIn wsX0_init (wsX2_init) := ggX0_init_X2_init
set_option maxRecDepth 20000 in
theorem ggX0_keep_X2_become : GoodIn wsX0_keep wsX2_become := goodIn_r _ [12, 13, 14, 15, 16, 17, 18, 19, 20, 21, 22, 23, 27, 28, 29, 30, 31, 32, 33, 34] (by decide +kernel) (by decide +kernel)
set_option maxRecDepth 20000 in
theorem gX0_keep_X2_become : GoodIn wsX0_keep (wsV RX0 25 RX2 yX2_become wsX2_become) := goodIn_app (goodIn_of _ (by decide +kernel)) ggX0_keep_X2_become
set_option maxRecDepth 20000 in
theorem ggX0_takeBack_X2_become : GoodIn wsX0_takeBack wsX2_become := goodIn_r _ [12, 13, 14, 15, 16, 17, 18, 19, 20, 21, 22, 23, 27, 28, 29, 30, 31, 32, 33, 34] (by decide +kernel) (by decide +kernel)
set_option maxRecDepth 20000 in
theorem gX0_takeBack_X2_become : GoodIn wsX0_takeBack (wsV RX0 25 RX2 yX2_become wsX2_become) := goodIn_app (goodIn_of _ (by decide +kernel)) ggX0_takeBack_X2_become
set_option maxRecDepth 20000 in
theorem ggX2_mayGo_X2_isFree : GoodIn wsX2_mayGo wsX2_isFree := goodIn_r _ [6, 7, 8, 9, 10, 11, 12, 13, 14, 15, 16, 17, 18] (by decide +kernel) (by decide +kernel)
set_option maxRecDepth 20000 in
theorem gX2_mayGo_X2_isFree : GoodIn wsX2_mayGo (wsV RX2 43 RX2 yX2_isFree wsX2_isFree) := goodIn_app (goodIn_of _ (by decide +kernel)) ggX2_mayGo_X2_isFree
set_option maxRecDepth 20000 in
theorem ggX2_mayCross_X2_isOn : GoodIn wsX2_mayCross wsX2_isOn := goodIn_r _ [7, 1, 8, 19, 20, 21, 22, 23, 24, 25, 26] (by decide +kernel) (by decide +kernel)
set_option maxRecDepth 20000 in
theorem gX2_mayCross_X2_isOn : GoodIn wsX2_mayCross (wsV RX2 47 RX2 yX2_isOn wsX2_isOn) := goodIn_app (goodIn_of _ (by decide +kernel)) ggX2_mayCross_X2_isOn
set_option maxRecDepth 20000 in
theorem ggX2_mayCross_X2_takesBoth : GoodIn wsX2_mayCross wsX2_takesBoth := goodIn_r _ [12, 13, 19, 20, 21, 22, 23, 24, 25, 26] (by decide +kernel) (by decide +kernel)
set_option maxRecDepth 20000 in
theorem gX2_mayCross_X2_takesBoth : GoodIn wsX2_mayCross (wsV RX2 51 RX2 yX2_takesBoth wsX2_takesBoth) := goodIn_app (goodIn_of _ (by decide +kernel)) ggX2_mayCross_X2_takesBoth
set_option maxRecDepth 20000 in
theorem ggX2_mayCross_X2_whoTakes : GoodIn wsX2_mayCross wsX2_whoTakes := goodIn_r _ [17, 18, 1, 2, 9, 10, 11, 6, 12, 13, 19, 20, 21, 22, 23, 24, 25, 26] (by decide +kernel) (by decide +kernel)
set_option maxRecDepth 20000 in
theorem gX2_mayCross_X2_whoTakes : GoodIn wsX2_mayCross (wsV RX2 54 RX2 yX2_whoTakes wsX2_whoTakes) := goodIn_app (goodIn_of _ (by decide +kernel)) ggX2_mayCross_X2_whoTakes
set_option maxRecDepth 20000 in
theorem ggX2_whoTakes_X2_takesBoth : GoodIn wsX2_whoTakes wsX2_takesBoth := goodIn_r _ [8, 9, 10, 11, 12, 13, 14, 15, 16, 17] (by decide +kernel) (by decide +kernel)
set_option maxRecDepth 20000 in
theorem gX2_whoTakes_X2_takesBoth : GoodIn wsX2_whoTakes (wsV RX2 51 RX2 yX2_takesBoth wsX2_takesBoth) := goodIn_app (goodIn_of _ (by decide +kernel)) ggX2_whoTakes_X2_takesBoth
set_option maxRecDepth 20000 in
theorem ggX2_howManyAt_X2_whoIsAt : GoodIn wsX2_howManyAt wsX2_whoIsAt := goodIn_r _ [5, 6, 7, 15, 16, 17, 18, 19, 20, 21, 22] (by decide +kernel) (by decide +kernel)
set_option maxRecDepth 20000 in
theorem gX2_howManyAt_X2_whoIsAt : GoodIn wsX2_howManyAt (wsV RX2 58 RX2 yX2_whoIsAt wsX2_whoIsAt) := goodIn_app (goodIn_of _ (by decide +kernel)) ggX2_howManyAt_X2_whoIsAt
set_option maxRecDepth 20000 in
theorem ggX2_howManyAt_J6_bitCount_0f7a4 : GoodIn wsX2_howManyAt wsJ6_bitCount_0f7a4 := goodIn_r _ [11, 12, 13, 14] (by decide +kernel) (by decide +kernel)
set_option maxRecDepth 20000 in
theorem gX2_howManyAt_J6_bitCount_0f7a4 : GoodIn wsX2_howManyAt (va_wsS RX2 62 yJ6_bitCount_0f7a4 wsJ6_bitCount_0f7a4) := goodIn_app (goodIn_of _ (by decide +kernel)) ggX2_howManyAt_J6_bitCount_0f7a4
set_option maxRecDepth 20000 in
theorem ggX2_stepsTaken_X2_isOn : GoodIn wsX2_stepsTaken wsX2_isOn := goodIn_r _ [7, 2, 8, 9, 10, 11, 12, 13, 14, 15, 16] (by decide +kernel) (by decide +kernel)
set_option maxRecDepth 20000 in
theorem gX2_stepsTaken_X2_isOn : GoodIn wsX2_stepsTaken (wsV RX2 47 RX2 yX2_isOn wsX2_isOn) := goodIn_app (goodIn_of _ (by decide +kernel)) ggX2_stepsTaken_X2_isOn
set_option maxRecDepth 20000 in
theorem ggX2_isClear_X2_howManyAt : GoodIn wsX2_isClear wsX2_howManyAt := goodIn_r _ [6, 7, 8, 9, 5, 10, 1, 11, 12, 13, 14, 15, 16, 17, 18, 19, 20, 21, 22, 23, 24, 25, 26] (by decide +kernel) (by decide +kernel)
set_option maxRecDepth 20000 in
theorem gX2_isClear_X2_howManyAt : GoodIn wsX2_isClear (wsV RX2 67 RX2 yX2_howManyAt wsX2_howManyAt) := goodIn_app (goodIn_of _ (by decide +kernel)) ggX2_isClear_X2_howManyAt
set_option maxRecDepth 20000 in
theorem ggX2_draw_X2_sendBack : GoodIn wsX2_draw wsX2_sendBack := goodIn_r _ [8, 3, 9, 10, 11, 12, 13, 14, 15, 16, 17] (by decide +kernel) (by decide +kernel)
set_option maxRecDepth 20000 in
theorem gX2_draw_X2_sendBack : GoodIn wsX2_draw (wsV RX2 70 RX2 yX2_sendBack wsX2_sendBack) := goodIn_app (goodIn_of _ (by decide +kernel)) ggX2_draw_X2_sendBack
set_option maxRecDepth 20000 in
theorem ggX2_pass_X2_giveTurns : GoodIn wsX2_pass wsX2_giveTurns := goodIn_r _ [9, 1, 3, 10, 11, 12, 13, 14, 8, 15, 16, 4, 17, 18, 19, 20, 21, 47, 48, 49, 50, 51, 52, 53, 54] (by decide +kernel) (by decide +kernel)
set_option maxRecDepth 20000 in
theorem gX2_pass_X2_giveTurns : GoodIn wsX2_pass (wsV RX2 74 RX2 yX2_giveTurns wsX2_giveTurns) := goodIn_app (goodIn_of _ (by decide +kernel)) ggX2_pass_X2_giveTurns
set_option maxRecDepth 20000 in
theorem ggX2_pass_X2_nextInTurn : GoodIn wsX2_pass wsX2_nextInTurn := goodIn_r _ [25, 2, 1, 3, 47, 48, 49, 50, 51, 52, 53, 54] (by decide +kernel) (by decide +kernel)
set_option maxRecDepth 20000 in
theorem gX2_pass_X2_nextInTurn : GoodIn wsX2_pass (wsV RX2 77 RX2 yX2_nextInTurn wsX2_nextInTurn) := goodIn_app (goodIn_of _ (by decide +kernel)) ggX2_pass_X2_nextInTurn
set_option maxRecDepth 20000 in
theorem ggX2_pass_X2_go : GoodIn wsX2_pass wsX2_go := goodIn_r _ [29, 16, 10, 30, 31, 32, 8, 33, 21, 34, 35, 36, 37, 1, 11, 47, 48, 49, 50, 51, 52, 53, 54] (by decide +kernel) (by decide +kernel)
set_option maxRecDepth 20000 in
theorem gX2_pass_X2_go : GoodIn wsX2_pass (wsV RX2 82 RX2 yX2_go wsX2_go) := goodIn_app (goodIn_of _ (by decide +kernel)) ggX2_pass_X2_go
set_option maxRecDepth 20000 in
theorem ggX2_pass_X2_carry : GoodIn wsX2_pass wsX2_carry := goodIn_r _ [41, 1, 10, 42, 21, 17, 18, 19, 8, 20, 47, 48, 49, 50, 51, 52, 53, 54] (by decide +kernel) (by decide +kernel)
set_option maxRecDepth 20000 in
theorem gX2_pass_X2_carry : GoodIn wsX2_pass (wsV RX2 86 RX2 yX2_carry wsX2_carry) := goodIn_app (goodIn_of _ (by decide +kernel)) ggX2_pass_X2_carry
set_option maxRecDepth 20000 in
theorem ggX2_pass_X2_letOneOn : GoodIn wsX2_pass wsX2_letOneOn := goodIn_r _ [46, 1, 10, 34, 35, 36, 8, 37, 16, 11, 47, 48, 49, 50, 51, 52, 53, 54] (by decide +kernel) (by decide +kernel)
set_option maxRecDepth 20000 in
theorem gX2_pass_X2_letOneOn : GoodIn wsX2_pass (wsV RX2 89 RX2 yX2_letOneOn wsX2_letOneOn) := goodIn_app (goodIn_of _ (by decide +kernel)) ggX2_pass_X2_letOneOn
set_option maxRecDepth 20000 in
theorem ggX2_giveTurns_X2_goes : GoodIn wsX2_giveTurns wsX2_goes := goodIn_r _ [9, 10, 11, 12, 13, 14, 8, 15, 3, 16, 17, 18, 19, 20, 21, 22, 23, 24] (by decide +kernel) (by decide +kernel)
set_option maxRecDepth 20000 in
theorem gX2_giveTurns_X2_goes : GoodIn wsX2_giveTurns (wsV RX2 92 RX2 yX2_goes wsX2_goes) := goodIn_app (goodIn_of _ (by decide +kernel)) ggX2_giveTurns_X2_goes
set_option maxRecDepth 20000 in
theorem ggX2_goes_X2_isOn : GoodIn wsX2_goes wsX2_isOn := goodIn_r _ [7, 8, 9, 10, 11, 12, 13, 14, 15, 16, 17] (by decide +kernel) (by decide +kernel)
set_option maxRecDepth 20000 in
theorem gX2_goes_X2_isOn : GoodIn wsX2_goes (wsV RX2 47 RX2 yX2_isOn wsX2_isOn) := goodIn_app (goodIn_of _ (by decide +kernel)) ggX2_goes_X2_isOn
set_option maxRecDepth 20000 in
theorem ggX2_go_X2_mayGo : GoodIn wsX2_go wsX2_mayGo := goodIn_r _ [7, 8, 9, 10, 11, 6, 12, 1, 13, 2, 14, 15, 16, 17, 18, 19, 20, 21, 22] (by decide +kernel) (by decide +kernel)
set_option maxRecDepth 20000 in
theorem gX2_go_X2_mayGo : GoodIn wsX2_go (wsV RX2 95 RX2 yX2_mayGo wsX2_mayGo) := goodIn_app (goodIn_of _ (by decide +kernel)) ggX2_go_X2_mayGo
set_option maxRecDepth 20000 in
theorem ggX2_carry_X2_isOn : GoodIn wsX2_carry wsX2_isOn := goodIn_r _ [9, 2, 4, 10, 11, 12, 13, 14, 15, 16, 17] (by decide +kernel) (by decide +kernel)
set_option maxRecDepth 20000 in
theorem gX2_carry_X2_isOn : GoodIn wsX2_carry (wsV RX2 47 RX2 yX2_isOn wsX2_isOn) := goodIn_app (goodIn_of _ (by decide +kernel)) ggX2_carry_X2_isOn
set_option maxRecDepth 20000 in
theorem ggX2_letOneOn_X2_isFree : GoodIn wsX2_letOneOn wsX2_isFree := goodIn_r _ [7, 8, 1, 2, 9, 10, 11, 12, 13, 14, 15, 16, 17] (by decide +kernel) (by decide +kernel)
set_option maxRecDepth 20000 in
theorem gX2_letOneOn_X2_isFree : GoodIn wsX2_letOneOn (wsV RX2 43 RX2 yX2_isFree wsX2_isFree) := goodIn_app (goodIn_of _ (by decide +kernel)) ggX2_letOneOn_X2_isFree
set_option maxRecDepth 20000 in
theorem ggX2_passUntilOff_X2_nobodyGoesOff : GoodIn wsX2_passUntilOff wsX2_nobodyGoesOff := goodIn_r _ [7, 8, 55, 56, 57, 58, 59, 60, 61, 62] (by decide +kernel) (by decide +kernel)
set_option maxRecDepth 20000 in
theorem gX2_passUntilOff_X2_nobodyGoesOff : GoodIn wsX2_passUntilOff (wsV RX2 98 RX2 yX2_nobodyGoesOff wsX2_nobodyGoesOff) := goodIn_app (goodIn_of _ (by decide +kernel)) ggX2_passUntilOff_X2_nobodyGoesOff
set_option maxRecDepth 20000 in
theorem ggX2_passUntilOff_X2_pass : GoodIn wsX2_passUntilOff wsX2_pass := goodIn_r _ [12, 13, 2, 14, 15, 16, 17, 18, 6, 19, 1, 20, 21, 22, 23, 24, 25, 26, 27, 28, 29, 30, 31, 32, 33, 34, 35, 36, 37, 38, 39, 40, 41, 42, 43, 44, 45, 46, 47, 48, 49, 50, 8, 51, 52, 53, 54, 55, 56, 57, 58, 59, 60, 61, 62] (by decide +kernel) (by decide +kernel)
set_option maxRecDepth 20000 in
theorem gX2_passUntilOff_X2_pass : GoodIn wsX2_passUntilOff (wsV RX2 102 RX2 yX2_pass wsX2_pass) := goodIn_app (goodIn_of _ (by decide +kernel)) ggX2_passUntilOff_X2_pass
set_option maxRecDepth 20000 in
theorem ggX2_passUntilClear_X2_isClear : GoodIn wsX2_passUntilClear wsX2_isClear := goodIn_r _ [6, 7, 8, 9, 10, 5, 11, 12, 13, 14, 15, 16, 17, 18, 19, 20, 21, 22, 23, 74, 75, 76, 77, 78, 79, 80, 81] (by decide +kernel) (by decide +kernel)
set_option maxRecDepth 20000 in
theorem gX2_passUntilClear_X2_isClear : GoodIn wsX2_passUntilClear (wsV RX2 105 RX2 yX2_isClear wsX2_isClear) := goodIn_app (goodIn_of _ (by decide +kernel)) ggX2_passUntilClear_X2_isClear
set_option maxRecDepth 20000 in
theorem ggX2_passUntilClear_X2_nobodyGoesOff : GoodIn wsX2_passUntilClear wsX2_nobodyGoesOff := goodIn_r _ [27, 28, 74, 75, 76, 77, 78, 79, 80, 81] (by decide +kernel) (by decide +kernel)
set_option maxRecDepth 20000 in
theorem gX2_passUntilClear_X2_nobodyGoesOff : GoodIn wsX2_passUntilClear (wsV RX2 98 RX2 yX2_nobodyGoesOff wsX2_nobodyGoesOff) := goodIn_app (goodIn_of _ (by decide +kernel)) ggX2_passUntilClear_X2_nobodyGoesOff
set_option maxRecDepth 20000 in
theorem ggX2_passUntilClear_X2_pass : GoodIn wsX2_passUntilClear wsX2_pass := goodIn_r _ [32, 7, 1, 33, 34, 35, 36, 37, 5, 38, 16, 39, 40, 41, 42, 43, 44, 45, 46, 47, 48, 49, 50, 51, 52, 53, 54, 55, 56, 57, 58, 59, 60, 61, 62, 63, 64, 65, 66, 67, 68, 69, 28, 70, 71, 72, 73, 74, 75, 76, 77, 78, 79, 80, 81] (by decide +kernel) (by decide +kernel)
set_option maxRecDepth 20000 in
theorem gX2_passUntilClear_X2_pass : GoodIn wsX2_passUntilClear (wsV RX2 102 RX2 yX2_pass wsX2_pass) := goodIn_app (goodIn_of _ (by decide +kernel)) ggX2_passUntilClear_X2_pass
set_option maxRecDepth 20000 in
theorem ggX3_readInto_X2_empty : GoodIn wsX3_readInto wsX2_empty := goodIn_r _ [9, 10, 11, 12, 13, 14, 63, 64, 65, 66, 67, 68, 69, 70] (by decide +kernel) (by decide +kernel)
set_option maxRecDepth 20000 in
theorem gX3_readInto_X2_empty : GoodIn wsX3_readInto (wsV RX3 22 RX2 yX2_empty wsX2_empty) := goodIn_app (goodIn_of _ (by decide +kernel)) ggX3_readInto_X2_empty
set_option maxRecDepth 20000 in
theorem ggX3_readInto_X3_widthOfToken : GoodIn wsX3_readInto wsX3_widthOfToken := goodIn_r _ [19, 20, 21, 22, 23, 18, 24, 1, 60, 61, 62] (by decide +kernel) (by decide +kernel)
set_option maxRecDepth 20000 in
theorem gX3_readInto_X3_widthOfToken : GoodIn wsX3_readInto (wsV RX3 27 RX3 yX3_widthOfToken wsX3_widthOfToken) := goodIn_app (goodIn_of _ (by decide +kernel)) ggX3_readInto_X3_widthOfToken
set_option maxRecDepth 20000 in
theorem ggX3_readInto_X3_accept : GoodIn wsX3_readInto wsX3_accept := goodIn_r _ [28, 29, 30, 31, 32, 33, 18, 34, 20, 35, 36, 37, 38, 4, 21, 22, 23, 24, 1, 39, 40, 41, 42, 43, 44, 45, 46, 47, 48, 49, 3, 50, 51, 52, 53, 54, 55, 56, 57, 58, 59, 63, 64, 65, 66, 67, 68, 69, 70, 60, 61, 62] (by decide +kernel) (by decide +kernel)
set_option maxRecDepth 20000 in
theorem gX3_readInto_X3_accept : GoodIn wsX3_readInto (wsV RX3 31 RX3 yX3_accept wsX3_accept) := goodIn_app (goodIn_of _ (by decide +kernel)) ggX3_readInto_X3_accept
set_option maxRecDepth 20000 in
theorem ggX3_widthOfToken_X3_isFigure : GoodIn wsX3_widthOfToken wsX3_isFigure := goodIn_r _ [6, 7, 1, 8, 9, 10] (by decide +kernel) (by decide +kernel)
set_option maxRecDepth 20000 in
theorem gX3_widthOfToken_X3_isFigure : GoodIn wsX3_widthOfToken (wsV RX3 39 RX3 yX3_isFigure wsX3_isFigure) := goodIn_app (goodIn_of _ (by decide +kernel)) ggX3_widthOfToken_X3_isFigure
set_option maxRecDepth 20000 in
theorem ggX3_accept_X3_acceptSign : GoodIn wsX3_accept wsX3_acceptSign := goodIn_r _ [7, 8, 49, 50, 51] (by decide +kernel) (by decide +kernel)
set_option maxRecDepth 20000 in
theorem gX3_accept_X3_acceptSign : GoodIn wsX3_accept (wsV RX3 43 RX3 yX3_acceptSign wsX3_acceptSign) := goodIn_app (goodIn_of _ (by decide +kernel)) ggX3_accept_X3_acceptSign
set_option maxRecDepth 20000 in
theorem ggX3_accept_X3_numberAt : GoodIn wsX3_accept wsX3_numberAt := goodIn_r _ [12, 13, 8, 14, 15, 16, 6, 17, 18, 49, 50, 51] (by decide +kernel) (by decide +kernel)
set_option maxRecDepth 20000 in
theorem gX3_accept_X3_numberAt : GoodIn wsX3_accept (wsV RX3 47 RX3 yX3_numberAt wsX3_numberAt) := goodIn_app (goodIn_of _ (by decide +kernel)) ggX3_accept_X3_numberAt
set_option maxRecDepth 20000 in
theorem ggX3_accept_X3_faultOfNumber : GoodIn wsX3_accept wsX3_faultOfNumber := goodIn_r _ [22, 13, 23, 24, 25] (by decide +kernel) (by decide +kernel)
set_option maxRecDepth 20000 in
theorem gX3_accept_X3_faultOfNumber : GoodIn wsX3_accept (wsV RX3 53 RX3 yX3_faultOfNumber wsX3_faultOfNumber) := goodIn_app (goodIn_of _ (by decide +kernel)) ggX3_accept_X3_faultOfNumber
set_option maxRecDepth 20000 in
theorem ggX3_accept_X3_acceptSort : GoodIn wsX3_accept wsX3_acceptSort := goodIn_r _ [29, 8, 13, 30, 31, 32, 33, 34, 6, 35, 49, 50, 51, 41, 42, 43, 44, 45, 46, 47, 48] (by decide +kernel) (by decide +kernel)
set_option maxRecDepth 20000 in
theorem gX3_accept_X3_acceptSort : GoodIn wsX3_accept (wsV RX3 60 RX3 yX3_acceptSort wsX3_acceptSort) := goodIn_app (goodIn_of _ (by decide +kernel)) ggX3_accept_X3_acceptSort
set_option maxRecDepth 20000 in
theorem ggX3_accept_X3_acceptLane : GoodIn wsX3_accept wsX3_acceptLane := goodIn_r _ [39, 30, 40, 19, 20, 21, 6, 22, 13, 23, 24, 25, 41, 42, 43, 44, 45, 46, 47, 48] (by decide +kernel) (by decide +kernel)
set_option maxRecDepth 20000 in
theorem gX3_accept_X3_acceptLane : GoodIn wsX3_accept (wsV RX3 64 RX3 yX3_acceptLane wsX3_acceptLane) := goodIn_app (goodIn_of _ (by decide +kernel)) ggX3_accept_X3_acceptLane
set_option maxRecDepth 20000 in
theorem ggX3_acceptSort_X3_kindOf : GoodIn wsX3_acceptSort wsX3_kindOf := goodIn_r _ [9, 2] (by decide +kernel) (by decide +kernel)
set_option maxRecDepth 20000 in
theorem gX3_acceptSort_X3_kindOf : GoodIn wsX3_acceptSort (wsV RX3 67 RX3 yX3_kindOf wsX3_kindOf) := goodIn_app (goodIn_of _ (by decide +kernel)) ggX3_acceptSort_X3_kindOf
set_option maxRecDepth 20000 in
theorem ggX3_acceptLane_X3_faultOfNumber : GoodIn wsX3_acceptLane wsX3_faultOfNumber := goodIn_r _ [7, 8, 9, 10, 11] (by decide +kernel) (by decide +kernel)
set_option maxRecDepth 20000 in
theorem gX3_acceptLane_X3_faultOfNumber : GoodIn wsX3_acceptLane (wsV RX3 53 RX3 yX3_faultOfNumber wsX3_faultOfNumber) := goodIn_app (goodIn_of _ (by decide +kernel)) ggX3_acceptLane_X3_faultOfNumber
set_option maxRecDepth 20000 in
theorem ggX3_numberAt_X3_isFigure : GoodIn wsX3_numberAt wsX3_isFigure := goodIn_r _ [7, 8, 2, 9, 10, 11] (by decide +kernel) (by decide +kernel)
set_option maxRecDepth 20000 in
theorem gX3_numberAt_X3_isFigure : GoodIn wsX3_numberAt (wsV RX3 39 RX3 yX3_isFigure wsX3_isFigure) := goodIn_app (goodIn_of _ (by decide +kernel)) ggX3_numberAt_X3_isFigure
set_option maxRecDepth 20000 in
theorem ggX3_faultOfNumber_X5_outside : GoodIn wsX3_faultOfNumber wsX5_outside := goodIn_r _ [4] (by decide +kernel) (by decide +kernel)
set_option maxRecDepth 20000 in
theorem gX3_faultOfNumber_X5_outside_n76 : GoodIn wsX3_faultOfNumber (wsX5_outside) := ggX3_faultOfNumber_X5_outside
set_option maxRecDepth 20000 in
theorem ggX5_init_X3_init : GoodIn wsX5_init wsX3_init := goodIn_r _ [32, 33, 2, 3, 25, 34, 35, 36, 79, 80, 81] (by decide +kernel) (by decide +kernel)
set_option maxRecDepth 20000 in
theorem gX5_init_X3_init_n17 : GoodIn wsX5_init (wsX3_init) := ggX5_init_X3_init
set_option maxRecDepth 20000 in
theorem ggX5_init_X2_init : GoodIn wsX5_init wsX2_init := goodIn_r _ [38, 39, 2, 3, 40, 41, 42, 43, 25, 44, 45, 46, 47, 82, 83, 84, 85, 86, 87, 88, 89] (by decide +kernel) (by decide +kernel)
set_option maxRecDepth 20000 in
theorem gX5_init_X2_init_n24 : GoodIn wsX5_init (wsX2_init) := ggX5_init_X2_init
set_option maxRecDepth 20000 in
theorem ggX5_init_X0_init : GoodIn wsX5_init wsX0_init := goodIn_r _ [50, 51, 2, 3, 52, 53, 54, 55, 11, 12, 37, 38, 39, 40, 41, 42, 43, 25, 44, 45, 46, 47, 90, 91, 92, 82, 83, 84, 85, 86, 87, 88, 89] (by decide +kernel) (by decide +kernel)
set_option maxRecDepth 20000 in
theorem gX5_init_X0_init : GoodIn wsX5_init (wsX0_init) := ggX5_init_X0_init
set_option maxRecDepth 20000 in
theorem ggX5_init_X4_init : GoodIn wsX5_init wsX4_init := goodIn_r _ [57, 58, 2, 3, 25, 59, 60, 93, 94] (by decide +kernel) (by decide +kernel)
set_option maxRecDepth 20000 in
theorem gX5_init_X4_init_n42 : GoodIn wsX5_init (wsX4_init) := ggX5_init_X4_init
set_option maxRecDepth 20000 in
theorem ggX5_init_X1_init : GoodIn wsX5_init wsX1_init := goodIn_r _ [62, 63, 2, 3, 25, 64, 65, 66, 67, 95, 96, 97, 98] (by decide +kernel) (by decide +kernel)
set_option maxRecDepth 20000 in
theorem gX5_init_X1_init_n64 : GoodIn wsX5_init (wsX1_init) := ggX5_init_X1_init
set_option maxRecDepth 20000 in
theorem ggX5_row_X5_noRow : GoodIn wsX5_row wsX5_noRow := goodIn_r _ [6, 7, 8, 5, 9] (by decide +kernel) (by decide +kernel)
set_option maxRecDepth 20000 in
theorem gX5_row_X5_noRow : GoodIn wsX5_row (va_wsS RX5 65 yX5_noRow wsX5_noRow) := goodIn_app (goodIn_of _ (by decide +kernel)) ggX5_row_X5_noRow
set_option maxRecDepth 20000 in
theorem ggX5_row_X5_outside : GoodIn wsX5_row wsX5_outside := goodIn_r _ [9] (by decide +kernel) (by decide +kernel)
set_option maxRecDepth 20000 in
theorem gX5_row_X5_outside : GoodIn wsX5_row (va_wsS RX5 69 yX5_outside wsX5_outside) := goodIn_app (goodIn_of _ (by decide +kernel)) ggX5_row_X5_outside
set_option maxRecDepth 20000 in
theorem ggX5_row_X5_found : GoodIn wsX5_row wsX5_found := goodIn_r _ [13, 14, 15, 29, 30, 31, 32, 33, 34, 35, 36, 37, 38, 39] (by decide +kernel) (by decide +kernel)
set_option maxRecDepth 20000 in
theorem gX5_row_X5_found : GoodIn wsX5_row (wsV RX5 74 RX5 yX5_found wsX5_found) := goodIn_app (goodIn_of _ (by decide +kernel)) ggX5_row_X5_found
set_option maxRecDepth 20000 in
theorem ggX5_row_X1_begin : GoodIn wsX5_row wsX1_begin := goodIn_r _ [20, 21, 22, 23, 24, 40, 41, 42, 43] (by decide +kernel) (by decide +kernel)
set_option maxRecDepth 20000 in
theorem gX5_row_X1_begin : GoodIn wsX5_row (wsV RX5 78 RX1 yX1_begin wsX1_begin) := goodIn_app (goodIn_of _ (by decide +kernel)) ggX5_row_X1_begin
set_option maxRecDepth 20000 in
theorem ggX5_row_X5_fine : GoodIn wsX5_row wsX5_fine := goodIn_r _ [28, 14, 29, 30, 31, 32, 33, 34, 35, 36, 37, 38, 39] (by decide +kernel) (by decide +kernel)
set_option maxRecDepth 20000 in
theorem gX5_row_X5_fine : GoodIn wsX5_row (wsV RX5 82 RX5 yX5_fine wsX5_fine) := goodIn_app (goodIn_of _ (by decide +kernel)) ggX5_row_X5_fine
set_option maxRecDepth 20000 in
theorem ggX5_set_X5_noRow : GoodIn wsX5_set wsX5_noRow := goodIn_r _ [8, 9, 10, 7, 11] (by decide +kernel) (by decide +kernel)
set_option maxRecDepth 20000 in
theorem gX5_set_X5_noRow : GoodIn wsX5_set (va_wsS RX5 65 yX5_noRow wsX5_noRow) := goodIn_app (goodIn_of _ (by decide +kernel)) ggX5_set_X5_noRow
set_option maxRecDepth 20000 in
theorem ggX5_set_X5_found : GoodIn wsX5_set wsX5_found := goodIn_r _ [15, 16, 17, 33, 34, 35, 36, 37, 38, 39, 40, 41, 42, 43] (by decide +kernel) (by decide +kernel)
set_option maxRecDepth 20000 in
theorem gX5_set_X5_found : GoodIn wsX5_set (wsV RX5 74 RX5 yX5_found wsX5_found) := goodIn_app (goodIn_of _ (by decide +kernel)) ggX5_set_X5_found
set_option maxRecDepth 20000 in
theorem ggX5_set_X1_holds : GoodIn wsX5_set wsX1_holds := goodIn_r _ [22, 23, 44, 45, 46, 47] (by decide +kernel) (by decide +kernel)
set_option maxRecDepth 20000 in
theorem gX5_set_X1_holds : GoodIn wsX5_set (wsV RX5 89 RX1 yX1_holds wsX1_holds) := goodIn_app (goodIn_of _ (by decide +kernel)) ggX5_set_X1_holds
set_option maxRecDepth 20000 in
theorem ggX5_set_X1_cut : GoodIn wsX5_set wsX1_cut := goodIn_r _ [27, 28, 44, 45, 46, 47] (by decide +kernel) (by decide +kernel)
set_option maxRecDepth 20000 in
theorem gX5_set_X1_cut : GoodIn wsX5_set (wsV RX5 96 RX1 yX1_cut wsX1_cut) := goodIn_app (goodIn_of _ (by decide +kernel)) ggX5_set_X1_cut
set_option maxRecDepth 20000 in
theorem ggX5_set_X5_fine : GoodIn wsX5_set wsX5_fine := goodIn_r _ [32, 16, 33, 34, 35, 36, 37, 38, 39, 40, 41, 42, 43] (by decide +kernel) (by decide +kernel)
set_option maxRecDepth 20000 in
theorem gX5_set_X5_fine : GoodIn wsX5_set (wsV RX5 82 RX5 yX5_fine wsX5_fine) := goodIn_app (goodIn_of _ (by decide +kernel)) ggX5_set_X5_fine
set_option maxRecDepth 20000 in
theorem ggX5_copy_X5_noRow : GoodIn wsX5_copy wsX5_noRow := goodIn_r _ [13, 14, 15, 12, 16] (by decide +kernel) (by decide +kernel)
set_option maxRecDepth 20000 in
theorem gX5_copy_X5_noRow : GoodIn wsX5_copy (va_wsS RX5 65 yX5_noRow wsX5_noRow) := goodIn_app (goodIn_of _ (by decide +kernel)) ggX5_copy_X5_noRow
set_option maxRecDepth 20000 in
theorem ggX5_copy_X5_found : GoodIn wsX5_copy wsX5_found := goodIn_r _ [20, 21, 22, 33, 34, 35, 36, 37, 38, 39, 40, 41, 42, 43] (by decide +kernel) (by decide +kernel)
set_option maxRecDepth 20000 in
theorem gX5_copy_X5_found : GoodIn wsX5_copy (wsV RX5 74 RX5 yX5_found wsX5_found) := goodIn_app (goodIn_of _ (by decide +kernel)) ggX5_copy_X5_found
set_option maxRecDepth 20000 in
theorem ggX5_copy_X1_holds : GoodIn wsX5_copy wsX1_holds := goodIn_r _ [27, 28, 44, 45, 46, 47] (by decide +kernel) (by decide +kernel)
set_option maxRecDepth 20000 in
theorem gX5_copy_X1_holds : GoodIn wsX5_copy (wsV RX5 89 RX1 yX1_holds wsX1_holds) := goodIn_app (goodIn_of _ (by decide +kernel)) ggX5_copy_X1_holds
set_option maxRecDepth 20000 in
theorem ggX5_copy_X5_fine : GoodIn wsX5_copy wsX5_fine := goodIn_r _ [32, 21, 33, 34, 35, 36, 37, 38, 39, 40, 41, 42, 43] (by decide +kernel) (by decide +kernel)
set_option maxRecDepth 20000 in
theorem gX5_copy_X5_fine : GoodIn wsX5_copy (wsV RX5 82 RX5 yX5_fine wsX5_fine) := goodIn_app (goodIn_of _ (by decide +kernel)) ggX5_copy_X5_fine
set_option maxRecDepth 20000 in
theorem ggX5_drop_X5_noRow : GoodIn wsX5_drop wsX5_noRow := goodIn_r _ [8, 9, 10, 7, 11] (by decide +kernel) (by decide +kernel)
set_option maxRecDepth 20000 in
theorem gX5_drop_X5_noRow : GoodIn wsX5_drop (va_wsS RX5 65 yX5_noRow wsX5_noRow) := goodIn_app (goodIn_of _ (by decide +kernel)) ggX5_drop_X5_noRow
set_option maxRecDepth 20000 in
theorem ggX5_drop_X5_found : GoodIn wsX5_drop wsX5_found := goodIn_r _ [15, 16, 17, 22, 23, 24, 25, 26, 27, 28, 29, 30, 31, 32] (by decide +kernel) (by decide +kernel)
set_option maxRecDepth 20000 in
theorem gX5_drop_X5_found : GoodIn wsX5_drop (wsV RX5 74 RX5 yX5_found wsX5_found) := goodIn_app (goodIn_of _ (by decide +kernel)) ggX5_drop_X5_found
set_option maxRecDepth 20000 in
theorem ggX5_drop_X5_fine : GoodIn wsX5_drop wsX5_fine := goodIn_r _ [21, 16, 22, 23, 24, 25, 26, 27, 28, 29, 30, 31, 32] (by decide +kernel) (by decide +kernel)
set_option maxRecDepth 20000 in
theorem gX5_drop_X5_fine : GoodIn wsX5_drop (wsV RX5 82 RX5 yX5_fine wsX5_fine) := goodIn_app (goodIn_of _ (by decide +kernel)) ggX5_drop_X5_fine
set_option maxRecDepth 20000 in
theorem ggX5_feed_X5_outside : GoodIn wsX5_feed wsX5_outside := goodIn_r _ [8] (by decide +kernel) (by decide +kernel)
set_option maxRecDepth 20000 in
theorem gX5_feed_X5_outside : GoodIn wsX5_feed (va_wsS RX5 69 yX5_outside wsX5_outside) := goodIn_app (goodIn_of _ (by decide +kernel)) ggX5_feed_X5_outside
set_option maxRecDepth 20000 in
theorem ggX5_feed_X3_append : GoodIn wsX5_feed wsX3_append := goodIn_r _ [13, 14, 15, 27, 28, 29] (by decide +kernel) (by decide +kernel)
set_option maxRecDepth 20000 in
theorem gX5_feed_X3_append : GoodIn wsX5_feed (wsV RX5 113 RX3 yX3_append wsX3_append) := goodIn_app (goodIn_of _ (by decide +kernel)) ggX5_feed_X3_append
set_option maxRecDepth 20000 in
theorem ggX5_stair_X3_readInto : GoodIn wsX5_stair wsX3_readInto := goodIn_r _ [13, 14, 15, 16, 17, 18, 19, 20, 21, 22, 23, 24, 25, 26, 27, 28, 29, 30, 12, 31, 32, 33, 34, 35, 36, 37, 38, 39, 40, 41, 42, 43, 44, 45, 46, 47, 48, 49, 50, 51, 52, 53, 54, 55, 56, 57, 58, 59, 60, 61, 62, 63, 64, 65, 66, 67, 68, 69, 70, 71, 99, 100, 101, 102, 103, 104, 105, 106, 107, 108, 109] (by decide +kernel) (by decide +kernel)
set_option maxRecDepth 20000 in
theorem gX5_stair_X3_readInto : GoodIn wsX5_stair (wsV RX5 117 RX3 yX3_readInto wsX3_readInto) := goodIn_app (goodIn_of _ (by decide +kernel)) ggX5_stair_X3_readInto
set_option maxRecDepth 20000 in
theorem ggX5_stair_X2_become : GoodIn wsX5_stair wsX2_become := goodIn_r _ [75, 23, 24, 25, 26, 76, 77, 78, 79, 80, 81, 27, 102, 103, 104, 105, 106, 107, 108, 109] (by decide +kernel) (by decide +kernel)
set_option maxRecDepth 20000 in
theorem gX5_stair_X2_become : GoodIn wsX5_stair (wsV RX5 123 RX2 yX2_become wsX2_become) := goodIn_app (goodIn_of _ (by decide +kernel)) ggX5_stair_X2_become
set_option maxRecDepth 20000 in
theorem ggX5_stair_X0_forgetAll : GoodIn wsX5_stair wsX0_forgetAll := goodIn_r _ [86, 87, 110, 111, 112] (by decide +kernel) (by decide +kernel)
set_option maxRecDepth 20000 in
theorem gX5_stair_X0_forgetAll : GoodIn wsX5_stair (wsV RX5 127 RX0 yX0_forgetAll wsX0_forgetAll) := goodIn_app (goodIn_of _ (by decide +kernel)) ggX5_stair_X0_forgetAll
set_option maxRecDepth 20000 in
theorem ggX5_ticks_X5_noStair : GoodIn wsX5_ticks wsX5_noStair := goodIn_r _ [11, 3, 12, 101, 102, 103, 104, 105, 106, 107, 108, 109, 110, 111, 112, 113, 114, 115, 116, 117, 118, 119] (by decide +kernel) (by decide +kernel)
set_option maxRecDepth 20000 in
theorem gX5_ticks_X5_noStair : GoodIn wsX5_ticks (wsV RX5 136 RX5 yX5_noStair wsX5_noStair) := goodIn_app (goodIn_of _ (by decide +kernel)) ggX5_ticks_X5_noStair
set_option maxRecDepth 20000 in
theorem ggX5_ticks_X5_outside : GoodIn wsX5_ticks wsX5_outside := goodIn_r _ [15] (by decide +kernel) (by decide +kernel)
set_option maxRecDepth 20000 in
theorem gX5_ticks_X5_outside : GoodIn wsX5_ticks (va_wsS RX5 69 yX5_outside wsX5_outside) := goodIn_app (goodIn_of _ (by decide +kernel)) ggX5_ticks_X5_outside
set_option maxRecDepth 20000 in
theorem ggX5_ticks_X0_keep : GoodIn wsX5_ticks wsX0_keep := goodIn_r _ [20, 21, 22, 23, 24, 25, 26, 27, 28, 29, 30, 31, 32, 33, 34, 35, 36, 37, 38, 39, 40, 41, 42, 43, 120, 121, 122, 112, 113, 114, 115, 116, 117, 118, 119] (by decide +kernel) (by decide +kernel)
set_option maxRecDepth 20000 in
theorem gX5_ticks_X0_keep : GoodIn wsX5_ticks (wsV RX5 144 RX0 yX0_keep wsX0_keep) := goodIn_app (goodIn_of _ (by decide +kernel)) ggX5_ticks_X0_keep
set_option maxRecDepth 20000 in
theorem ggX5_ticks_X2_pass : GoodIn wsX5_ticks wsX2_pass := goodIn_r _ [47, 36, 48, 49, 35, 50, 51, 52, 31, 53, 43, 42, 54, 55, 56, 57, 37, 58, 59, 60, 61, 33, 62, 63, 64, 65, 66, 67, 68, 69, 70, 71, 72, 73, 74, 75, 76, 77, 78, 79, 80, 81, 34, 82, 83, 84, 85, 112, 113, 114, 115, 116, 117, 118, 119] (by decide +kernel) (by decide +kernel)
set_option maxRecDepth 20000 in
theorem gX5_ticks_X2_pass : GoodIn wsX5_ticks (wsV RX5 147 RX2 yX2_pass wsX2_pass) := goodIn_app (goodIn_of _ (by decide +kernel)) ggX5_ticks_X2_pass
set_option maxRecDepth 20000 in
theorem ggX5_ticks_X2_howManyAt : GoodIn wsX5_ticks wsX2_howManyAt := goodIn_r _ [89, 90, 91, 92, 31, 93, 36, 43, 94, 95, 96, 97, 98, 99, 100, 112, 113, 114, 115, 116, 117, 118, 119] (by decide +kernel) (by decide +kernel)
set_option maxRecDepth 20000 in
theorem gX5_ticks_X2_howManyAt : GoodIn wsX5_ticks (wsV RX5 151 RX2 yX2_howManyAt wsX2_howManyAt) := goodIn_app (goodIn_of _ (by decide +kernel)) ggX5_ticks_X2_howManyAt
set_option maxRecDepth 20000 in
theorem ggX5_speed_X5_noStair : GoodIn wsX5_speed wsX5_noStair := goodIn_r _ [10, 3, 11, 43, 44, 45, 46, 47, 48, 49, 50, 51, 52, 53, 54, 55, 56, 57, 58, 59, 60, 61] (by decide +kernel) (by decide +kernel)
set_option maxRecDepth 20000 in
theorem gX5_speed_X5_noStair : GoodIn wsX5_speed (wsV RX5 136 RX5 yX5_noStair wsX5_noStair) := goodIn_app (goodIn_of _ (by decide +kernel)) ggX5_speed_X5_noStair
set_option maxRecDepth 20000 in
theorem ggX5_speed_X5_outside : GoodIn wsX5_speed wsX5_outside := goodIn_r _ [14] (by decide +kernel) (by decide +kernel)
set_option maxRecDepth 20000 in
theorem gX5_speed_X5_outside : GoodIn wsX5_speed (va_wsS RX5 69 yX5_outside wsX5_outside) := goodIn_app (goodIn_of _ (by decide +kernel)) ggX5_speed_X5_outside
set_option maxRecDepth 20000 in
theorem ggX5_speed_X0_keep : GoodIn wsX5_speed wsX0_keep := goodIn_r _ [19, 20, 21, 22, 23, 24, 25, 26, 27, 28, 29, 30, 31, 32, 33, 34, 35, 36, 37, 38, 39, 40, 41, 42, 62, 63, 64, 54, 55, 56, 57, 58, 59, 60, 61] (by decide +kernel) (by decide +kernel)
set_option maxRecDepth 20000 in
theorem gX5_speed_X0_keep : GoodIn wsX5_speed (wsV RX5 144 RX0 yX0_keep wsX0_keep) := goodIn_app (goodIn_of _ (by decide +kernel)) ggX5_speed_X0_keep
set_option maxRecDepth 20000 in
theorem ggX5_cross_X5_noRider : GoodIn wsX5_cross wsX5_noRider := goodIn_r _ [11, 2, 12, 13, 14, 10, 15, 60, 61, 62, 63, 64, 65, 66, 67, 68, 69, 70, 71, 72, 73, 74, 75, 76, 77, 78] (by decide +kernel) (by decide +kernel)
set_option maxRecDepth 20000 in
theorem gX5_cross_X5_noRider : GoodIn wsX5_cross (wsV RX5 157 RX5 yX5_noRider wsX5_noRider) := goodIn_app (goodIn_of _ (by decide +kernel)) ggX5_cross_X5_noRider
set_option maxRecDepth 20000 in
theorem ggX5_cross_X2_mayCross : GoodIn wsX5_cross wsX2_mayCross := goodIn_r _ [20, 21, 22, 23, 24, 25, 19, 26, 27, 28, 29, 30, 31, 32, 33, 34, 35, 36, 37, 71, 72, 73, 74, 75, 76, 77, 78] (by decide +kernel) (by decide +kernel)
set_option maxRecDepth 20000 in
theorem gX5_cross_X2_mayCross : GoodIn wsX5_cross (wsV RX5 163 RX2 yX2_mayCross wsX2_mayCross) := goodIn_app (goodIn_of _ (by decide +kernel)) ggX5_cross_X2_mayCross
set_option maxRecDepth 20000 in
theorem ggX5_cross_X0_keep : GoodIn wsX5_cross wsX0_keep := goodIn_r _ [42, 43, 44, 45, 46, 47, 48, 49, 50, 51, 52, 19, 53, 27, 54, 55, 37, 32, 56, 57, 58, 59, 22, 21, 79, 80, 81, 71, 72, 73, 74, 75, 76, 77, 78] (by decide +kernel) (by decide +kernel)
set_option maxRecDepth 20000 in
theorem gX5_cross_X0_keep : GoodIn wsX5_cross (wsV RX5 144 RX0 yX0_keep wsX0_keep) := goodIn_app (goodIn_of _ (by decide +kernel)) ggX5_cross_X0_keep
set_option maxRecDepth 20000 in
theorem ggX5_take_X5_noRider : GoodIn wsX5_take wsX5_noRider := goodIn_r _ [10, 2, 11, 12, 13, 9, 14, 43, 44, 45, 46, 47, 48, 49, 50, 51, 52, 53, 54, 55, 56, 57, 58, 59, 60, 61] (by decide +kernel) (by decide +kernel)
set_option maxRecDepth 20000 in
theorem gX5_take_X5_noRider : GoodIn wsX5_take (wsV RX5 157 RX5 yX5_noRider wsX5_noRider) := goodIn_app (goodIn_of _ (by decide +kernel)) ggX5_take_X5_noRider
set_option maxRecDepth 20000 in
theorem ggX5_take_X0_keep : GoodIn wsX5_take wsX0_keep := goodIn_r _ [19, 20, 21, 22, 23, 24, 25, 26, 27, 28, 29, 30, 31, 32, 33, 34, 35, 36, 37, 38, 39, 40, 41, 42, 62, 63, 64, 54, 55, 56, 57, 58, 59, 60, 61] (by decide +kernel) (by decide +kernel)
set_option maxRecDepth 20000 in
theorem gX5_take_X0_keep : GoodIn wsX5_take (wsV RX5 144 RX0 yX0_keep wsX0_keep) := goodIn_app (goodIn_of _ (by decide +kernel)) ggX5_take_X0_keep
set_option maxRecDepth 20000 in
theorem ggX5_again_X5_noRider : GoodIn wsX5_again wsX5_noRider := goodIn_r _ [10, 2, 11, 12, 13, 9, 14, 62, 63, 64, 65, 66, 67, 68, 69, 70, 71, 72, 73, 74, 75, 76, 77, 78, 79, 80] (by decide +kernel) (by decide +kernel)
set_option maxRecDepth 20000 in
theorem gX5_again_X5_noRider : GoodIn wsX5_again (wsV RX5 157 RX5 yX5_noRider wsX5_noRider) := goodIn_app (goodIn_of _ (by decide +kernel)) ggX5_again_X5_noRider
set_option maxRecDepth 20000 in
theorem ggX5_again_X5_outside : GoodIn wsX5_again wsX5_outside := goodIn_r _ [14] (by decide +kernel) (by decide +kernel)
set_option maxRecDepth 20000 in
theorem gX5_again_X5_outside : GoodIn wsX5_again (va_wsS RX5 69 yX5_outside wsX5_outside) := goodIn_app (goodIn_of _ (by decide +kernel)) ggX5_again_X5_outside
set_option maxRecDepth 20000 in
theorem ggX5_again_X0_keep : GoodIn wsX5_again wsX0_keep := goodIn_r _ [19, 20, 21, 22, 23, 24, 25, 26, 27, 28, 29, 30, 31, 32, 33, 34, 35, 36, 37, 38, 39, 40, 41, 42, 81, 82, 83, 73, 74, 75, 76, 77, 78, 79, 80] (by decide +kernel) (by decide +kernel)
set_option maxRecDepth 20000 in
theorem gX5_again_X0_keep : GoodIn wsX5_again (wsV RX5 144 RX0 yX0_keep wsX0_keep) := goodIn_app (goodIn_of _ (by decide +kernel)) ggX5_again_X0_keep
set_option maxRecDepth 20000 in
theorem ggX5_again_X2_sendBack : GoodIn wsX5_again wsX2_sendBack := goodIn_r _ [46, 42, 41, 73, 74, 75, 76, 77, 78, 79, 80] (by decide +kernel) (by decide +kernel)
set_option maxRecDepth 20000 in
theorem gX5_again_X2_sendBack : GoodIn wsX5_again (wsV RX5 169 RX2 yX2_sendBack wsX2_sendBack) := goodIn_app (goodIn_of _ (by decide +kernel)) ggX5_again_X2_sendBack
