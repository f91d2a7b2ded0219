/-! printed by gen.py: each method is as it is printed, and where its words stand -/
set_option maxRecDepth 100000 in
theorem ck_Elders_init : xok z_Elders_init := xok_of (by decide +kernel) [(2, 53), (2, 54), (1, 25), (1, 26), (1, 75), (2, 55), (1, 75), (2, 59), (1, 75), (2, 64), (1, 75), (2, 67), (1, 145), (2, 70), (1, 145), (2, 73), (1, 145), (2, 77), (2, 79), (2, 64), (2, 67)] rfl (by decide +kernel)
set_option maxRecDepth 100000 in
theorem ck_Elders_copyFrom : xok z_Elders_copyFrom := xok_of (by decide +kernel) [(4, 158), (2, 55), (2, 55), (2, 55), (4, 159), (3, 210), (3, 209), (1, 18), (2, 59), (2, 59), (2, 59), (4, 159), (3, 210), (3, 209), (1, 18), (2, 64), (2, 64), (2, 64), (4, 159), (3, 210), (3, 209), (1, 18), (2, 67), (2, 67), (2, 67), (4, 159), (3, 210), (3, 209), (1, 18), (2, 70), (2, 70), (2, 70), (4, 159), (3, 210), (3, 209), (1, 18), (2, 73), (2, 73), (2, 73), (4, 159), (3, 210), (3, 209), (1, 18), (2, 77), (2, 77), (2, 77), (4, 159), (3, 210), (3, 209), (1, 18), (2, 79), (2, 79)] rfl (by decide +kernel)
set_option maxRecDepth 100000 in
theorem ck_Elders_countLiars : xok z_Elders_countLiars := xok_of (by decide +kernel) [(4, 67), (2, 55)] rfl (by decide +kernel)
set_option maxRecDepth 100000 in
theorem ck_Elders_countBarred : xok z_Elders_countBarred := xok_of (by decide +kernel) [(4, 229), (2, 77)] rfl (by decide +kernel)
set_option maxRecDepth 100000 in
theorem ck_Elders_makeLiarsSound : xok z_Elders_makeLiarsSound := xok_of (by decide +kernel) [(4, 163), (2, 55), (2, 55), (2, 55), (2, 55)] rfl (by decide +kernel)
set_option maxRecDepth 100000 in
theorem ck_Elders_through : xok z_Elders_through := xok_of (by decide +kernel) [(4, 10), (2, 77)] rfl (by decide +kernel)
set_option maxRecDepth 100000 in
theorem ck_Found_init : xok z_Found_init := xok_of (by decide +kernel) [(1, 223), (1, 224), (1, 25), (1, 26), (1, 75), (1, 228), (1, 75), (1, 229), (1, 225), (1, 225), (1, 75), (1, 226), (1, 225), (1, 75), (1, 227)] rfl (by decide +kernel)
set_option maxRecDepth 100000 in
theorem ck_Found_clear : xok z_Found_clear := xok_of (by decide +kernel) [(4, 89), (1, 230), (1, 228), (1, 229), (1, 230)] rfl (by decide +kernel)
set_option maxRecDepth 100000 in
theorem ck_Found_put : xok z_Found_put := xok_of (by decide +kernel) [(4, 93), (4, 94), (4, 96), (0, 25), (1, 8), (1, 228), (1, 228), (4, 99), (4, 101), (0, 26), (1, 8), (1, 230), (1, 227), (1, 226), (1, 230), (1, 225), (1, 225), (4, 103), (3, 210), (3, 209), (1, 18), (1, 229), (1, 230), (1, 230), (1, 230), (1, 228), (1, 230)] rfl (by decide +kernel)
set_option maxRecDepth 100000 in
theorem ck_Found_show : xok z_Found_show := xok_of (by decide +kernel) [(4, 111), (1, 225), (1, 225), (1, 226), (1, 172), (1, 166), (1, 161), (1, 226), (1, 225), (1, 177)] rfl (by decide +kernel)
set_option maxRecDepth 100000 in
theorem ck_Found_pack : xok z_Found_pack := xok_of (by decide +kernel) [(4, 97), (1, 177), (1, 225), (1, 161), (1, 166), (1, 227), (1, 172), (1, 227), (4, 98), (1, 227), (1, 225), (1, 177)] rfl (by decide +kernel)
set_option maxRecDepth 100000 in
theorem ck_Found_isRowAt : xok z_Found_isRowAt := xok_of (by decide +kernel) [(4, 102), (1, 225), (1, 225), (1, 226), (1, 227)] rfl (by decide +kernel)
set_option maxRecDepth 100000 in
theorem ck_Hall_init : xok z_Hall_init := xok_of (by decide +kernel) [(1, 117), (1, 118), (1, 25), (1, 26), (1, 75), (1, 129), (1, 119), (1, 128), (1, 75), (1, 121), (1, 75), (1, 122), (1, 75), (1, 124), (1, 145), (1, 126)] rfl (by decide +kernel)
set_option maxRecDepth 100000 in
theorem ck_Hall_leftOf : xok z_Hall_leftOf := xok_of (by decide +kernel) [(4, 14), (1, 119)] rfl (by decide +kernel)
set_option maxRecDepth 100000 in
theorem ck_Hall_rightOf : xok z_Hall_rightOf := xok_of (by decide +kernel) [(4, 6), (1, 119)] rfl (by decide +kernel)
set_option maxRecDepth 100000 in
theorem ck_Hall_pass : xok z_Hall_pass := xok_of (by decide +kernel) [(3, 214), (3, 215), (3, 216), (3, 217), (1, 4), (1, 182), (3, 239), (4, 0), (4, 1), (1, 4)] rfl (by decide +kernel)
set_option maxRecDepth 100000 in
theorem ck_Hall_decide : xok z_Hall_decide := xok_of (by decide +kernel) [(3, 218), (1, 119), (2, 58), (1, 121), (1, 162), (1, 122), (2, 66), (1, 124), (2, 69), (1, 126), (2, 72), (2, 58), (3, 219), (3, 221), (0, 18), (1, 4), (3, 223), (3, 225), (0, 19), (1, 4)] rfl (by decide +kernel)
set_option maxRecDepth 100000 in
theorem ck_Hall_decideSound : xok z_Hall_decideSound := xok_of (by decide +kernel) [(3, 226), (1, 128), (2, 80), (1, 55), (1, 46), (3, 227), (3, 229), (0, 20), (1, 4), (1, 121), (1, 28), (1, 1), (1, 122), (1, 28), (1, 1), (1, 124), (1, 28), (1, 1), (1, 126), (1, 126)] rfl (by decide +kernel)
set_option maxRecDepth 100000 in
theorem ck_Hall_carry : xok z_Hall_carry := xok_of (by decide +kernel) [(4, 2), (1, 119), (1, 162), (1, 121), (1, 168), (4, 3), (4, 4), (4, 5), (1, 4), (1, 124), (4, 7), (4, 8), (4, 9), (1, 9), (1, 174), (4, 11), (4, 12), (4, 13), (1, 4), (1, 122), (4, 7), (4, 8), (4, 9), (1, 9), (1, 126), (2, 76), (1, 178), (1, 182)] rfl (by decide +kernel)
set_option maxRecDepth 100000 in
theorem ck_Hall_wordOf : xok z_Hall_wordOf := xok_of (by decide +kernel) [(4, 30), (3, 219), (3, 221), (0, 18), (1, 4), (1, 128), (2, 80), (4, 31), (3, 128), (3, 129), (1, 2), (1, 162), (1, 128), (2, 80), (3, 227), (3, 229), (0, 20), (1, 4), (1, 28), (1, 1)] rfl (by decide +kernel)
set_option maxRecDepth 100000 in
theorem ck_Hall_isAgreed : xok z_Hall_isAgreed := xok_of (by decide +kernel) [(4, 39), (1, 119), (2, 58), (4, 40), (4, 28), (4, 29), (1, 4)] rfl (by decide +kernel)
set_option maxRecDepth 100000 in
theorem ck_Hall_isRuled : xok z_Hall_isRuled := xok_of (by decide +kernel) [(3, 222), (2, 80), (2, 80)] rfl (by decide +kernel)
set_option maxRecDepth 100000 in
theorem ck_Hall_work : xok z_Hall_work := xok_of (by decide +kernel) [(3, 230), (1, 50), (1, 48), (1, 38), (1, 40), (1, 42), (1, 129), (1, 129), (1, 129), (1, 162), (1, 129), (1, 168), (1, 129), (1, 174), (1, 129), (1, 178), (1, 129), (1, 182), (1, 129), (2, 63), (1, 129), (1, 119), (1, 129), (1, 129), (1, 129), (1, 129), (1, 129), (1, 129), (1, 129), (1, 129), (1, 44), (1, 129), (1, 129), (1, 129), (3, 232), (1, 4), (3, 231), (1, 129)] rfl (by decide +kernel)
set_option maxRecDepth 100000 in
theorem ck_Hall_join : xok z_Hall_join := xok_of (by decide +kernel) [(3, 233), (3, 234), (3, 235), (3, 236), (3, 237)] rfl (by decide +kernel)
set_option maxRecDepth 100000 in
theorem ck_Heard_init : xok z_Heard_init := xok_of (by decide +kernel) [(2, 103), (2, 104), (1, 25), (1, 26), (1, 75), (2, 105), (1, 75), (2, 106)] rfl (by decide +kernel)
set_option maxRecDepth 100000 in
theorem ck_Heard_add : xok z_Heard_add := xok_of (by decide +kernel) [(4, 146), (2, 107), (2, 109), (2, 109), (2, 107), (2, 105), (2, 109), (2, 106), (2, 109), (2, 109), (2, 109)] rfl (by decide +kernel)
set_option maxRecDepth 100000 in
theorem ck_Heard_isLike : xok z_Heard_isLike := xok_of (by decide +kernel) [(4, 121), (1, 181), (2, 109), (1, 165), (2, 107), (2, 105), (1, 171), (2, 107), (2, 106)] rfl (by decide +kernel)
set_option maxRecDepth 100000 in
theorem ck_Heard_copyFrom : xok z_Heard_copyFrom := xok_of (by decide +kernel) [(4, 216), (2, 105), (2, 105), (4, 217), (3, 210), (3, 209), (1, 18), (2, 106), (2, 106), (4, 217), (3, 210), (3, 209), (1, 18), (2, 107), (2, 107), (2, 109), (2, 109)] rfl (by decide +kernel)
set_option maxRecDepth 100000 in
theorem ck_Moment_init : xok z_Moment_init := xok_of (by decide +kernel) [(1, 158), (1, 159), (1, 25), (1, 26), (1, 75), (1, 160), (1, 75), (1, 164), (1, 75), (1, 170), (1, 164), (1, 170)] rfl (by decide +kernel)
set_option maxRecDepth 100000 in
theorem ck_Moment_begin : xok z_Moment_begin := xok_of (by decide +kernel) [(3, 195), (1, 160), (1, 160), (2, 60), (1, 164), (1, 170), (1, 176), (1, 180)] rfl (by decide +kernel)
set_option maxRecDepth 100000 in
theorem ck_Moment_copyFrom : xok z_Moment_copyFrom := xok_of (by decide +kernel) [(3, 207), (1, 160), (1, 160), (1, 160), (3, 208), (3, 210), (3, 209), (1, 18), (1, 164), (1, 164), (1, 164), (3, 208), (3, 210), (3, 209), (1, 18), (1, 170), (1, 170), (1, 170), (3, 208), (3, 210), (3, 209), (1, 18), (1, 176), (1, 176), (1, 180), (1, 180)] rfl (by decide +kernel)
set_option maxRecDepth 100000 in
theorem ck_Moment_countNotes : xok z_Moment_countNotes := xok_of (by decide +kernel) [(4, 53), (1, 160), (1, 164), (1, 170)] rfl (by decide +kernel)
set_option maxRecDepth 100000 in
theorem ck_Past_init : xok z_Past_init := xok_of (by decide +kernel) [(2, 134), (2, 135), (1, 25), (1, 26), (2, 136), (2, 139), (2, 139), (2, 136), (1, 155), (1, 6), (1, 157), (1, 6), (2, 138)] rfl (by decide +kernel)
set_option maxRecDepth 100000 in
theorem ck_Past_push : xok z_Past_push := xok_of (by decide +kernel) [(3, 203), (2, 139), (2, 140), (3, 204), (3, 205), (3, 206), (1, 6), (2, 140), (2, 140), (2, 140), (2, 141), (2, 141), (2, 141)] rfl (by decide +kernel)
set_option maxRecDepth 100000 in
theorem ck_Past_pop : xok z_Past_pop := xok_of (by decide +kernel) [(4, 22), (2, 141), (2, 140), (2, 140), (2, 140), (2, 141), (2, 141), (2, 139), (2, 140), (3, 204), (3, 205), (3, 206), (1, 6)] rfl (by decide +kernel)
set_option maxRecDepth 100000 in
theorem ck_Past_copyFrom : xok z_Past_copyFrom := xok_of (by decide +kernel) [(4, 212), (2, 139), (2, 139), (3, 204), (3, 205), (3, 206), (1, 6), (2, 140), (2, 140), (2, 141), (2, 141)] rfl (by decide +kernel)
set_option maxRecDepth 100000 in
theorem ck_Runs_init : xok z_Runs_init := xok_of (by decide +kernel) [(1, 216), (1, 217), (1, 25), (1, 26), (1, 218), (1, 75), (2, 12), (1, 218), (1, 75), (2, 13), (1, 75), (2, 17), (1, 75), (2, 18), (2, 14), (1, 219), (1, 220), (1, 8), (1, 222), (1, 8), (1, 221), (2, 8), (1, 219), (1, 220), (1, 8), (1, 222), (1, 8), (1, 221), (2, 10), (1, 219), (1, 220), (1, 8), (1, 222), (1, 8), (1, 221), (2, 11), (2, 6), (1, 155), (1, 6), (1, 157), (1, 6), (2, 7), (2, 15), (2, 6), (1, 155), (1, 6), (1, 157), (1, 6), (2, 7), (2, 16), (2, 20)] rfl (by decide +kernel)
set_option maxRecDepth 100000 in
theorem ck_Runs_goThrough : xok z_Runs_goThrough := xok_of (by decide +kernel) [(4, 71), (4, 72), (4, 74), (0, 22), (1, 7), (2, 15), (4, 85), (3, 193), (3, 194), (1, 6), (2, 8), (4, 86), (4, 87), (4, 88), (1, 8), (2, 8), (2, 15), (4, 90), (4, 91), (4, 92), (1, 8), (2, 10), (2, 8), (2, 10), (2, 8), (4, 104), (4, 106), (0, 27), (1, 7)] rfl (by decide +kernel)
set_option maxRecDepth 100000 in
theorem ck_Runs_seatLiars : xok z_Runs_seatLiars := xok_of (by decide +kernel) [(4, 75), (2, 19), (2, 20), (2, 14), (1, 120), (2, 19), (2, 57), (2, 17), (2, 19), (2, 19), (2, 19), (2, 20), (2, 20), (2, 21), (2, 21), (4, 76), (4, 78), (0, 23), (1, 7), (2, 18), (2, 21), (2, 21), (2, 21)] rfl (by decide +kernel)
set_option maxRecDepth 100000 in
theorem ck_Runs_isIdle : xok z_Runs_isIdle := xok_of (by decide +kernel) [(4, 79), (2, 19), (4, 80), (4, 82), (0, 24), (1, 7), (4, 80), (4, 82), (0, 24), (1, 7), (4, 80), (4, 82), (0, 24), (1, 7), (4, 84), (4, 8), (4, 9), (1, 9), (4, 84), (4, 8), (4, 9), (1, 9), (2, 75), (2, 17)] rfl (by decide +kernel)
set_option maxRecDepth 100000 in
theorem ck_Runs_goOneHour : xok z_Runs_goOneHour := xok_of (by decide +kernel) [(4, 107), (2, 8), (4, 86), (4, 87), (4, 88), (1, 8), (2, 11), (4, 86), (4, 87), (4, 88), (1, 8), (2, 10), (1, 231), (2, 10), (2, 15), (4, 108), (4, 109), (4, 110), (1, 8), (2, 15), (1, 183), (2, 14), (2, 15), (4, 112), (3, 216), (3, 217), (1, 4), (4, 113), (4, 115), (0, 28), (1, 7), (2, 14), (2, 16), (4, 117), (4, 0), (4, 1), (1, 4), (2, 11), (2, 16), (4, 90), (4, 91), (4, 92), (1, 8), (2, 21), (2, 18), (4, 113), (4, 115), (0, 28), (1, 7), (2, 14), (2, 16), (4, 117), (4, 0), (4, 1), (1, 4), (2, 16), (4, 118), (4, 119), (4, 120), (1, 10), (2, 8), (2, 16), (4, 90), (4, 91), (4, 92), (1, 8), (2, 12), (2, 8), (1, 231), (2, 13), (2, 8), (1, 231), (2, 18)] rfl (by decide +kernel)
set_option maxRecDepth 100000 in
theorem ck_Runs_setLiars : xok z_Runs_setLiars := xok_of (by decide +kernel) [(4, 116), (2, 19), (2, 17), (2, 14), (1, 123), (4, 80), (4, 82), (0, 24), (1, 7), (2, 14), (1, 125), (4, 80), (4, 82), (0, 24), (1, 7), (2, 14), (1, 127), (4, 80), (4, 82), (0, 24), (1, 7)] rfl (by decide +kernel)
set_option maxRecDepth 100000 in
theorem ck_Runs_doneBy : xok z_Runs_doneBy := xok_of (by decide +kernel) [(4, 83), (2, 19), (2, 20), (2, 20), (2, 20), (2, 20), (2, 20)] rfl (by decide +kernel)
set_option maxRecDepth 100000 in
theorem ck_Runs_firstBad : xok z_Runs_firstBad := xok_of (by decide +kernel) [(4, 125), (2, 15), (1, 183), (2, 8), (1, 231), (2, 8), (2, 15), (4, 108), (4, 109), (4, 110), (1, 8), (2, 14), (2, 15), (4, 126), (4, 37), (4, 38), (1, 4)] rfl (by decide +kernel)
set_option maxRecDepth 100000 in
theorem ck_Runs_doneOnTheWay : xok z_Runs_doneOnTheWay := xok_of (by decide +kernel) [(4, 138), (2, 12), (2, 13), (4, 80), (4, 82), (0, 24), (1, 7)] rfl (by decide +kernel)
set_option maxRecDepth 100000 in
theorem ck_Tape_init : xok z_Tape_init := xok_of (by decide +kernel) [(1, 80), (1, 81), (1, 25), (1, 26), (1, 75), (1, 82)] rfl (by decide +kernel)
set_option maxRecDepth 100000 in
theorem ck_Tape_append : xok z_Tape_append := xok_of (by decide +kernel) [(3, 3), (1, 83), (1, 82), (1, 83), (1, 83), (1, 83)] rfl (by decide +kernel)
set_option maxRecDepth 100000 in
theorem ck_Tape_read : xok z_Tape_read := xok_of (by decide +kernel) [(3, 15), (1, 89), (1, 89), (3, 16), (3, 17), (3, 18), (1, 2), (1, 85), (1, 87), (1, 92), (3, 20), (3, 22), (0, 1), (1, 3), (1, 90), (3, 115), (3, 117), (0, 6), (1, 3)] rfl (by decide +kernel)
set_option maxRecDepth 100000 in
theorem ck_Tape_readClause : xok z_Tape_readClause := xok_of (by decide +kernel) [(3, 118), (1, 90), (3, 119), (3, 121), (0, 7), (1, 3), (3, 20), (3, 22), (0, 1), (1, 3), (1, 89), (1, 52), (3, 131), (3, 133), (0, 9), (1, 3), (3, 147), (3, 149), (0, 12), (1, 3), (3, 163), (3, 165), (0, 16), (1, 3), (1, 89), (3, 175), (3, 176), (3, 177), (1, 2)] rfl (by decide +kernel)
set_option maxRecDepth 100000 in
theorem ck_Tape_mayBegin : xok z_Tape_mayBegin := xok_of (by decide +kernel) [(3, 122), (3, 123), (3, 125), (0, 8), (1, 3), (1, 89), (3, 127), (3, 128), (3, 129), (1, 2), (3, 123), (3, 125), (0, 8), (1, 3), (1, 89), (1, 54), (3, 123), (3, 125), (0, 8), (1, 3)] rfl (by decide +kernel)
set_option maxRecDepth 100000 in
theorem ck_Tape_readEither : xok z_Tape_readEither := xok_of (by decide +kernel) [(3, 134), (3, 135), (3, 137), (0, 10), (1, 3), (1, 90), (3, 20), (3, 22), (0, 1), (1, 3), (3, 135), (3, 137), (0, 10), (1, 3), (3, 171), (3, 173), (0, 17), (1, 3)] rfl (by decide +kernel)
set_option maxRecDepth 100000 in
theorem ck_Tape_readBoth : xok z_Tape_readBoth := xok_of (by decide +kernel) [(3, 138), (3, 139), (3, 141), (0, 11), (1, 3), (1, 90), (3, 20), (3, 22), (0, 1), (1, 3), (3, 139), (3, 141), (0, 11), (1, 3), (3, 171), (3, 173), (0, 17), (1, 3)] rfl (by decide +kernel)
set_option maxRecDepth 100000 in
theorem ck_Tape_readAsk : xok z_Tape_readAsk := xok_of (by decide +kernel) [(3, 142), (1, 90), (3, 123), (3, 125), (0, 8), (1, 3), (3, 20), (3, 22), (0, 1), (1, 3), (3, 139), (3, 141), (0, 11), (1, 3), (1, 89), (3, 143), (3, 144), (3, 145), (1, 2), (3, 147), (3, 149), (0, 12), (1, 3), (1, 90), (3, 123), (3, 125), (0, 8), (1, 3), (3, 20), (3, 22), (0, 1), (1, 3), (3, 147), (3, 149), (0, 12), (1, 3), (3, 171), (3, 173), (0, 17), (1, 3)] rfl (by decide +kernel)
set_option maxRecDepth 100000 in
theorem ck_Tape_readSum : xok z_Tape_readSum := xok_of (by decide +kernel) [(3, 150), (3, 151), (3, 153), (0, 13), (1, 3), (1, 90), (1, 90), (1, 90), (3, 20), (3, 22), (0, 1), (1, 3), (3, 151), (3, 153), (0, 13), (1, 3), (3, 171), (3, 173), (0, 17), (1, 3)] rfl (by decide +kernel)
set_option maxRecDepth 100000 in
theorem ck_Tape_readProduct : xok z_Tape_readProduct := xok_of (by decide +kernel) [(3, 154), (3, 155), (3, 157), (0, 14), (1, 3), (1, 90), (1, 90), (1, 90), (3, 20), (3, 22), (0, 1), (1, 3), (3, 155), (3, 157), (0, 14), (1, 3), (3, 171), (3, 173), (0, 17), (1, 3)] rfl (by decide +kernel)
set_option maxRecDepth 100000 in
theorem ck_Tape_readOne : xok z_Tape_readOne := xok_of (by decide +kernel) [(3, 158), (1, 90), (1, 93), (3, 123), (3, 125), (0, 8), (1, 3), (3, 123), (3, 125), (0, 8), (1, 3), (3, 123), (3, 125), (0, 8), (1, 3), (3, 20), (3, 22), (0, 1), (1, 3), (1, 89), (3, 143), (3, 144), (3, 145), (1, 2), (3, 159), (3, 161), (0, 15), (1, 3), (3, 155), (3, 157), (0, 14), (1, 3), (1, 89), (3, 143), (3, 144), (3, 145), (1, 2), (3, 147), (3, 149), (0, 12), (1, 3), (3, 163), (3, 165), (0, 16), (1, 3)] rfl (by decide +kernel)
