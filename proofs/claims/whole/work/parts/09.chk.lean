/-! printed by gen.py: each method is as it is printed, and where its words stand -/
set_option maxRecDepth 100000 in
theorem ck_Elders_init : xok z_Elders_init := xok_of (by decide +kernel) [(2, 50), (2, 51), (1, 25), (1, 26), (1, 75), (2, 52), (1, 75), (2, 56), (1, 75), (2, 61), (1, 75), (2, 64), (1, 145), (2, 67), (1, 145), (2, 70), (1, 145), (2, 73), (2, 75), (2, 61), (2, 64)] rfl (by decide +kernel)
set_option maxRecDepth 100000 in
theorem ck_Elders_copyFrom : xok z_Elders_copyFrom := xok_of (by decide +kernel) [(4, 149), (2, 52), (2, 52), (2, 52), (4, 150), (3, 206), (3, 205), (1, 18), (2, 56), (2, 56), (2, 56), (4, 150), (3, 206), (3, 205), (1, 18), (2, 61), (2, 61), (2, 61), (4, 150), (3, 206), (3, 205), (1, 18), (2, 64), (2, 64), (2, 64), (4, 150), (3, 206), (3, 205), (1, 18), (2, 67), (2, 67), (2, 67), (4, 150), (3, 206), (3, 205), (1, 18), (2, 70), (2, 70), (2, 70), (4, 150), (3, 206), (3, 205), (1, 18), (2, 73), (2, 73), (2, 73), (4, 150), (3, 206), (3, 205), (1, 18), (2, 75), (2, 75)] rfl (by decide +kernel)
set_option maxRecDepth 100000 in
theorem ck_Elders_countLiars : xok z_Elders_countLiars := xok_of (by decide +kernel) [(4, 63), (2, 52)] rfl (by decide +kernel)
set_option maxRecDepth 100000 in
theorem ck_Elders_countBarred : xok z_Elders_countBarred := xok_of (by decide +kernel) [(4, 220), (2, 73)] rfl (by decide +kernel)
set_option maxRecDepth 100000 in
theorem ck_Elders_makeLiarsSound : xok z_Elders_makeLiarsSound := xok_of (by decide +kernel) [(4, 154), (2, 52), (2, 52), (2, 52), (2, 52)] rfl (by decide +kernel)
set_option maxRecDepth 100000 in
theorem ck_Elders_through : xok z_Elders_through := xok_of (by decide +kernel) [(4, 6), (2, 73)] rfl (by decide +kernel)
set_option maxRecDepth 100000 in
theorem ck_Found_init : xok z_Found_init := xok_of (by decide +kernel) [(1, 223), (1, 224), (1, 25), (1, 26), (1, 75), (1, 228), (1, 75), (1, 229), (1, 225), (1, 225), (1, 75), (1, 226), (1, 225), (1, 75), (1, 227)] rfl (by decide +kernel)
set_option maxRecDepth 100000 in
theorem ck_Found_clear : xok z_Found_clear := xok_of (by decide +kernel) [(4, 76), (1, 230), (1, 228), (1, 229), (1, 230)] rfl (by decide +kernel)
set_option maxRecDepth 100000 in
theorem ck_Found_put : xok z_Found_put := xok_of (by decide +kernel) [(4, 80), (4, 81), (4, 83), (0, 23), (1, 8), (1, 228), (1, 228), (4, 86), (4, 88), (0, 24), (1, 8), (1, 230), (1, 227), (1, 226), (1, 230), (1, 225), (1, 225), (4, 90), (3, 206), (3, 205), (1, 18), (1, 229), (1, 230), (1, 230), (1, 230), (1, 228), (1, 230)] rfl (by decide +kernel)
set_option maxRecDepth 100000 in
theorem ck_Found_show : xok z_Found_show := xok_of (by decide +kernel) [(4, 98), (1, 225), (1, 225), (1, 226), (1, 172), (1, 166), (1, 161), (1, 226), (1, 225), (1, 177)] rfl (by decide +kernel)
set_option maxRecDepth 100000 in
theorem ck_Found_pack : xok z_Found_pack := xok_of (by decide +kernel) [(4, 84), (1, 177), (1, 225), (1, 161), (1, 166), (1, 227), (1, 172), (1, 227), (4, 85), (1, 227), (1, 225), (1, 177)] rfl (by decide +kernel)
set_option maxRecDepth 100000 in
theorem ck_Found_isRowAt : xok z_Found_isRowAt := xok_of (by decide +kernel) [(4, 89), (1, 225), (1, 225), (1, 226), (1, 227)] rfl (by decide +kernel)
set_option maxRecDepth 100000 in
theorem ck_Hall_init : xok z_Hall_init := xok_of (by decide +kernel) [(1, 117), (1, 118), (1, 25), (1, 26), (1, 75), (1, 129), (1, 119), (1, 128), (1, 75), (1, 121), (1, 75), (1, 122), (1, 75), (1, 124), (1, 145), (1, 126)] rfl (by decide +kernel)
set_option maxRecDepth 100000 in
theorem ck_Hall_leftOf : xok z_Hall_leftOf := xok_of (by decide +kernel) [(4, 10), (1, 119)] rfl (by decide +kernel)
set_option maxRecDepth 100000 in
theorem ck_Hall_rightOf : xok z_Hall_rightOf := xok_of (by decide +kernel) [(4, 2), (1, 119)] rfl (by decide +kernel)
set_option maxRecDepth 100000 in
theorem ck_Hall_pass : xok z_Hall_pass := xok_of (by decide +kernel) [(3, 210), (3, 211), (3, 212), (3, 213), (1, 4), (1, 182), (3, 235), (3, 236), (3, 237), (1, 4)] rfl (by decide +kernel)
set_option maxRecDepth 100000 in
theorem ck_Hall_decide : xok z_Hall_decide := xok_of (by decide +kernel) [(3, 214), (1, 119), (2, 55), (1, 121), (1, 162), (1, 122), (2, 63), (1, 124), (2, 66), (1, 126), (2, 69), (2, 55), (3, 215), (3, 217), (0, 18), (1, 4), (3, 219), (3, 221), (0, 19), (1, 4)] rfl (by decide +kernel)
set_option maxRecDepth 100000 in
theorem ck_Hall_decideSound : xok z_Hall_decideSound := xok_of (by decide +kernel) [(3, 222), (1, 128), (2, 76), (1, 55), (1, 46), (3, 223), (3, 225), (0, 20), (1, 4), (1, 121), (1, 28), (1, 1), (1, 122), (1, 28), (1, 1), (1, 124), (1, 28), (1, 1), (1, 126), (1, 126)] rfl (by decide +kernel)
set_option maxRecDepth 100000 in
theorem ck_Hall_carry : xok z_Hall_carry := xok_of (by decide +kernel) [(3, 238), (1, 119), (1, 162), (1, 121), (1, 168), (3, 239), (4, 0), (4, 1), (1, 4), (1, 124), (4, 3), (4, 4), (4, 5), (1, 9), (1, 174), (4, 7), (4, 8), (4, 9), (1, 4), (1, 122), (4, 3), (4, 4), (4, 5), (1, 9), (1, 126), (2, 72), (1, 178), (1, 182)] rfl (by decide +kernel)
set_option maxRecDepth 100000 in
theorem ck_Hall_wordOf : xok z_Hall_wordOf := xok_of (by decide +kernel) [(4, 26), (3, 215), (3, 217), (0, 18), (1, 4), (1, 128), (2, 76), (4, 27), (3, 124), (3, 125), (1, 2), (1, 162), (1, 128), (2, 76), (3, 223), (3, 225), (0, 20), (1, 4), (1, 28), (1, 1)] rfl (by decide +kernel)
set_option maxRecDepth 100000 in
theorem ck_Hall_isAgreed : xok z_Hall_isAgreed := xok_of (by decide +kernel) [(4, 35), (1, 119), (2, 55), (4, 36), (4, 24), (4, 25), (1, 4)] rfl (by decide +kernel)
set_option maxRecDepth 100000 in
theorem ck_Hall_isRuled : xok z_Hall_isRuled := xok_of (by decide +kernel) [(3, 218), (2, 76), (2, 76)] rfl (by decide +kernel)
set_option maxRecDepth 100000 in
theorem ck_Hall_work : xok z_Hall_work := xok_of (by decide +kernel) [(3, 226), (1, 50), (1, 48), (1, 38), (1, 40), (1, 42), (1, 129), (1, 129), (1, 129), (1, 162), (1, 129), (1, 168), (1, 129), (1, 174), (1, 129), (1, 178), (1, 129), (1, 182), (1, 129), (2, 60), (1, 129), (1, 119), (1, 129), (1, 129), (1, 129), (1, 129), (1, 129), (1, 129), (1, 129), (1, 129), (1, 44), (1, 129), (1, 129), (1, 129), (3, 228), (1, 4), (3, 227), (1, 129)] rfl (by decide +kernel)
set_option maxRecDepth 100000 in
theorem ck_Hall_join : xok z_Hall_join := xok_of (by decide +kernel) [(3, 229), (3, 230), (3, 231), (3, 232), (3, 233)] rfl (by decide +kernel)
set_option maxRecDepth 100000 in
theorem ck_Heard_init : xok z_Heard_init := xok_of (by decide +kernel) [(2, 99), (2, 100), (1, 25), (1, 26), (1, 75), (2, 101), (1, 75), (2, 102)] rfl (by decide +kernel)
set_option maxRecDepth 100000 in
theorem ck_Heard_add : xok z_Heard_add := xok_of (by decide +kernel) [(4, 137), (2, 103), (2, 105), (2, 105), (2, 103), (2, 101), (2, 105), (2, 102), (2, 105), (2, 105), (2, 105)] rfl (by decide +kernel)
set_option maxRecDepth 100000 in
theorem ck_Heard_isLike : xok z_Heard_isLike := xok_of (by decide +kernel) [(4, 112), (1, 181), (2, 105), (1, 165), (2, 103), (2, 101), (1, 171), (2, 103), (2, 102)] rfl (by decide +kernel)
set_option maxRecDepth 100000 in
theorem ck_Heard_copyFrom : xok z_Heard_copyFrom := xok_of (by decide +kernel) [(4, 207), (2, 101), (2, 101), (4, 208), (3, 206), (3, 205), (1, 18), (2, 102), (2, 102), (4, 208), (3, 206), (3, 205), (1, 18), (2, 103), (2, 103), (2, 105), (2, 105)] rfl (by decide +kernel)
set_option maxRecDepth 100000 in
theorem ck_Moment_init : xok z_Moment_init := xok_of (by decide +kernel) [(1, 158), (1, 159), (1, 25), (1, 26), (1, 75), (1, 160), (1, 75), (1, 164), (1, 75), (1, 170), (1, 164), (1, 170)] rfl (by decide +kernel)
set_option maxRecDepth 100000 in
theorem ck_Moment_begin : xok z_Moment_begin := xok_of (by decide +kernel) [(3, 191), (1, 160), (1, 160), (2, 57), (1, 164), (1, 170), (1, 176), (1, 180)] rfl (by decide +kernel)
set_option maxRecDepth 100000 in
theorem ck_Moment_copyFrom : xok z_Moment_copyFrom := xok_of (by decide +kernel) [(3, 203), (1, 160), (1, 160), (1, 160), (3, 204), (3, 206), (3, 205), (1, 18), (1, 164), (1, 164), (1, 164), (3, 204), (3, 206), (3, 205), (1, 18), (1, 170), (1, 170), (1, 170), (3, 204), (3, 206), (3, 205), (1, 18), (1, 176), (1, 176), (1, 180), (1, 180)] rfl (by decide +kernel)
set_option maxRecDepth 100000 in
theorem ck_Moment_countNotes : xok z_Moment_countNotes := xok_of (by decide +kernel) [(4, 49), (1, 160), (1, 164), (1, 170)] rfl (by decide +kernel)
set_option maxRecDepth 100000 in
theorem ck_Past_init : xok z_Past_init := xok_of (by decide +kernel) [(2, 130), (2, 131), (1, 25), (1, 26), (2, 132), (2, 135), (2, 135), (2, 132), (1, 155), (1, 6), (1, 157), (1, 6), (2, 134)] rfl (by decide +kernel)
set_option maxRecDepth 100000 in
theorem ck_Past_push : xok z_Past_push := xok_of (by decide +kernel) [(3, 199), (2, 135), (2, 136), (3, 200), (3, 201), (3, 202), (1, 6), (2, 136), (2, 136), (2, 136), (2, 137), (2, 137), (2, 137)] rfl (by decide +kernel)
set_option maxRecDepth 100000 in
theorem ck_Past_pop : xok z_Past_pop := xok_of (by decide +kernel) [(4, 18), (2, 137), (2, 136), (2, 136), (2, 136), (2, 137), (2, 137), (2, 135), (2, 136), (3, 200), (3, 201), (3, 202), (1, 6)] rfl (by decide +kernel)
set_option maxRecDepth 100000 in
theorem ck_Past_copyFrom : xok z_Past_copyFrom := xok_of (by decide +kernel) [(4, 203), (2, 135), (2, 135), (3, 200), (3, 201), (3, 202), (1, 6), (2, 136), (2, 136), (2, 137), (2, 137)] rfl (by decide +kernel)
set_option maxRecDepth 100000 in
theorem ck_Runs_init : xok z_Runs_init := xok_of (by decide +kernel) [(1, 216), (1, 217), (1, 25), (1, 26), (1, 218), (1, 75), (2, 12), (1, 218), (1, 75), (2, 13), (1, 75), (2, 17), (2, 14), (1, 219), (1, 220), (1, 8), (1, 222), (1, 8), (1, 221), (2, 8), (1, 219), (1, 220), (1, 8), (1, 222), (1, 8), (1, 221), (2, 10), (1, 219), (1, 220), (1, 8), (1, 222), (1, 8), (1, 221), (2, 11), (2, 6), (1, 155), (1, 6), (1, 157), (1, 6), (2, 7), (2, 15), (2, 6), (1, 155), (1, 6), (1, 157), (1, 6), (2, 7), (2, 16), (2, 19)] rfl (by decide +kernel)
set_option maxRecDepth 100000 in
theorem ck_Runs_goThrough : xok z_Runs_goThrough := xok_of (by decide +kernel) [(4, 67), (4, 68), (4, 70), (0, 22), (1, 7), (2, 15), (4, 72), (3, 189), (3, 190), (1, 6), (2, 8), (4, 73), (4, 74), (4, 75), (1, 8), (2, 8), (2, 15), (4, 77), (4, 78), (4, 79), (1, 8), (2, 10), (2, 8), (2, 10), (2, 8), (4, 91), (4, 93), (0, 25), (1, 7)] rfl (by decide +kernel)
set_option maxRecDepth 100000 in
theorem ck_Runs_seatLiars : xok z_Runs_seatLiars := xok_of (by decide +kernel) [(4, 71), (2, 18), (2, 19), (2, 20), (2, 14), (1, 120), (2, 18), (2, 54), (2, 17), (2, 18), (2, 18), (2, 18), (2, 20), (2, 19), (2, 19), (2, 20)] rfl (by decide +kernel)
set_option maxRecDepth 100000 in
theorem ck_Runs_goOneHour : xok z_Runs_goOneHour := xok_of (by decide +kernel) [(4, 94), (2, 8), (4, 73), (4, 74), (4, 75), (1, 8), (2, 11), (4, 73), (4, 74), (4, 75), (1, 8), (2, 10), (1, 231), (2, 10), (2, 15), (4, 95), (4, 96), (4, 97), (1, 8), (2, 15), (1, 183), (2, 14), (2, 15), (4, 99), (3, 212), (3, 213), (1, 4), (4, 100), (4, 102), (0, 26), (1, 7), (2, 14), (2, 16), (4, 108), (3, 236), (3, 237), (1, 4), (2, 11), (2, 16), (4, 77), (4, 78), (4, 79), (1, 8), (2, 20), (4, 100), (4, 102), (0, 26), (1, 7), (2, 14), (2, 16), (4, 108), (3, 236), (3, 237), (1, 4), (2, 16), (4, 109), (4, 110), (4, 111), (1, 10), (2, 8), (2, 16), (4, 77), (4, 78), (4, 79), (1, 8), (2, 12), (2, 8), (1, 231), (2, 13), (2, 8), (1, 231)] rfl (by decide +kernel)
set_option maxRecDepth 100000 in
theorem ck_Runs_setLiars : xok z_Runs_setLiars := xok_of (by decide +kernel) [(4, 103), (2, 18), (2, 17), (2, 14), (1, 123), (4, 104), (4, 106), (0, 27), (1, 7), (2, 14), (1, 125), (4, 104), (4, 106), (0, 27), (1, 7), (2, 14), (1, 127), (4, 104), (4, 106), (0, 27), (1, 7)] rfl (by decide +kernel)
set_option maxRecDepth 100000 in
theorem ck_Runs_doneBy : xok z_Runs_doneBy := xok_of (by decide +kernel) [(4, 107), (2, 18), (2, 19), (2, 19), (2, 19), (2, 19), (2, 19)] rfl (by decide +kernel)
set_option maxRecDepth 100000 in
theorem ck_Runs_firstBad : xok z_Runs_firstBad := xok_of (by decide +kernel) [(4, 116), (2, 15), (1, 183), (2, 8), (1, 231), (2, 8), (2, 15), (4, 95), (4, 96), (4, 97), (1, 8), (2, 14), (2, 15), (4, 117), (4, 33), (4, 34), (1, 4)] rfl (by decide +kernel)
set_option maxRecDepth 100000 in
theorem ck_Runs_doneOnTheWay : xok z_Runs_doneOnTheWay := xok_of (by decide +kernel) [(4, 129), (2, 12), (2, 13), (4, 104), (4, 106), (0, 27), (1, 7)] rfl (by decide +kernel)
set_option maxRecDepth 100000 in
theorem ck_Tape_init : xok z_Tape_init := xok_of (by decide +kernel) [(1, 80), (1, 81), (1, 25), (1, 26), (1, 75), (1, 82)] rfl (by decide +kernel)
set_option maxRecDepth 100000 in
theorem ck_Tape_append : xok z_Tape_append := xok_of (by decide +kernel) [(2, 239), (1, 83), (1, 82), (1, 83), (1, 83), (1, 83)] rfl (by decide +kernel)
set_option maxRecDepth 100000 in
theorem ck_Tape_read : xok z_Tape_read := xok_of (by decide +kernel) [(3, 11), (1, 89), (1, 89), (3, 12), (3, 13), (3, 14), (1, 2), (1, 85), (1, 87), (1, 92), (3, 16), (3, 18), (0, 1), (1, 3), (1, 90), (3, 111), (3, 113), (0, 6), (1, 3)] rfl (by decide +kernel)
set_option maxRecDepth 100000 in
theorem ck_Tape_readClause : xok z_Tape_readClause := xok_of (by decide +kernel) [(3, 114), (1, 90), (3, 115), (3, 117), (0, 7), (1, 3), (3, 16), (3, 18), (0, 1), (1, 3), (1, 89), (1, 52), (3, 127), (3, 129), (0, 9), (1, 3), (3, 143), (3, 145), (0, 12), (1, 3), (3, 159), (3, 161), (0, 16), (1, 3), (1, 89), (3, 171), (3, 172), (3, 173), (1, 2)] rfl (by decide +kernel)
set_option maxRecDepth 100000 in
theorem ck_Tape_mayBegin : xok z_Tape_mayBegin := xok_of (by decide +kernel) [(3, 118), (3, 119), (3, 121), (0, 8), (1, 3), (1, 89), (3, 123), (3, 124), (3, 125), (1, 2), (3, 119), (3, 121), (0, 8), (1, 3), (1, 89), (1, 54), (3, 119), (3, 121), (0, 8), (1, 3)] rfl (by decide +kernel)
set_option maxRecDepth 100000 in
theorem ck_Tape_readEither : xok z_Tape_readEither := xok_of (by decide +kernel) [(3, 130), (3, 131), (3, 133), (0, 10), (1, 3), (1, 90), (3, 16), (3, 18), (0, 1), (1, 3), (3, 131), (3, 133), (0, 10), (1, 3), (3, 167), (3, 169), (0, 17), (1, 3)] rfl (by decide +kernel)
set_option maxRecDepth 100000 in
theorem ck_Tape_readBoth : xok z_Tape_readBoth := xok_of (by decide +kernel) [(3, 134), (3, 135), (3, 137), (0, 11), (1, 3), (1, 90), (3, 16), (3, 18), (0, 1), (1, 3), (3, 135), (3, 137), (0, 11), (1, 3), (3, 167), (3, 169), (0, 17), (1, 3)] rfl (by decide +kernel)
set_option maxRecDepth 100000 in
theorem ck_Tape_readAsk : xok z_Tape_readAsk := xok_of (by decide +kernel) [(3, 138), (1, 90), (3, 119), (3, 121), (0, 8), (1, 3), (3, 16), (3, 18), (0, 1), (1, 3), (3, 135), (3, 137), (0, 11), (1, 3), (1, 89), (3, 139), (3, 140), (3, 141), (1, 2), (3, 143), (3, 145), (0, 12), (1, 3), (1, 90), (3, 119), (3, 121), (0, 8), (1, 3), (3, 16), (3, 18), (0, 1), (1, 3), (3, 143), (3, 145), (0, 12), (1, 3), (3, 167), (3, 169), (0, 17), (1, 3)] rfl (by decide +kernel)
set_option maxRecDepth 100000 in
theorem ck_Tape_readSum : xok z_Tape_readSum := xok_of (by decide +kernel) [(3, 146), (3, 147), (3, 149), (0, 13), (1, 3), (1, 90), (1, 90), (1, 90), (3, 16), (3, 18), (0, 1), (1, 3), (3, 147), (3, 149), (0, 13), (1, 3), (3, 167), (3, 169), (0, 17), (1, 3)] rfl (by decide +kernel)
set_option maxRecDepth 100000 in
theorem ck_Tape_readProduct : xok z_Tape_readProduct := xok_of (by decide +kernel) [(3, 150), (3, 151), (3, 153), (0, 14), (1, 3), (1, 90), (1, 90), (1, 90), (3, 16), (3, 18), (0, 1), (1, 3), (3, 151), (3, 153), (0, 14), (1, 3), (3, 167), (3, 169), (0, 17), (1, 3)] rfl (by decide +kernel)
set_option maxRecDepth 100000 in
theorem ck_Tape_readOne : xok z_Tape_readOne := xok_of (by decide +kernel) [(3, 154), (1, 90), (1, 93), (3, 119), (3, 121), (0, 8), (1, 3), (3, 119), (3, 121), (0, 8), (1, 3), (3, 119), (3, 121), (0, 8), (1, 3), (3, 16), (3, 18), (0, 1), (1, 3), (1, 89), (3, 139), (3, 140), (3, 141), (1, 2), (3, 155), (3, 157), (0, 15), (1, 3), (3, 151), (3, 153), (0, 14), (1, 3), (1, 89), (3, 139), (3, 140), (3, 141), (1, 2), (3, 143), (3, 145), (0, 12), (1, 3), (3, 159), (3, 161), (0, 16), (1, 3)] rfl (by decide +kernel)
set_option maxRecDepth 100000 in
theorem ck_Tape_readChoice : xok z_Tape_readChoice := xok_of (by decide +kernel) [(3, 158), (3, 127), (3, 129), (0, 9), (1, 3), (3, 159), (3, 161), (0, 16), (1, 3), (1, 89), (3, 139), (3, 140), (3, 141), (1, 2), (3, 143), (3, 145), (0, 12), (1, 3), (3, 159), (3, 161), (0, 16), (1, 3), (1, 89), (3, 139), (3, 140), (3, 141), (1, 2), (1, 89), (3, 163), (3, 164), (3, 165), (1, 2), (3, 143), (3, 145), (0, 12), (1, 3), (3, 159), (3, 161), (0, 16), (1, 3), (1, 89), (3, 163), (3, 164), (3, 165), (1, 2), (1, 89), (3, 139), (3, 140), (3, 141), (1, 2)] rfl (by decide +kernel)
set_option maxRecDepth 100000 in
theorem ck_Tape_pair : xok z_Tape_pair := xok_of (by decide +kernel) [(3, 170), (1, 89), (3, 139), (3, 140), (3, 141), (1, 2)] rfl (by decide +kernel)
set_option maxRecDepth 100000 in
theorem ck_Tape_isPassed : xok z_Tape_isPassed := xok_of (by decide +kernel) [(3, 162), (1, 90), (3, 119), (3, 121), (0, 8), (1, 3), (3, 16), (3, 18), (0, 1), (1, 3)] rfl (by decide +kernel)
set_option maxRecDepth 100000 in
theorem ck_Tape_wrong : xok z_Tape_wrong := xok_of (by decide +kernel) [(3, 122), (1, 85), (1, 91), (1, 87)] rfl (by decide +kernel)
set_option maxRecDepth 100000 in
theorem ck_Tape_next : xok z_Tape_next := xok_of (by decide +kernel) [(3, 19), (1, 92), (1, 83), (1, 82), (1, 92), (1, 82), (1, 92), (1, 92), (1, 92), (1, 92), (1, 91), (1, 92), (1, 83), (1, 90), (1, 82), (1, 92), (3, 21), (1, 3), (3, 20), (1, 90), (3, 23), (3, 25), (0, 2), (1, 3), (1, 82), (1, 92), (3, 28), (1, 3), (3, 27), (3, 30), (3, 32), (0, 3), (1, 3), (1, 90), (3, 107), (3, 109), (0, 5), (1, 3), (1, 90)] rfl (by decide +kernel)
set_option maxRecDepth 100000 in
theorem ck_Tape_takeNumber : xok z_Tape_takeNumber := xok_of (by decide +kernel) [(3, 26), (1, 93), (1, 92), (1, 83), (1, 82), (1, 92), (3, 21), (1, 3), (3, 20), (1, 93), (1, 93), (1, 93), (1, 82), (1, 92), (1, 93), (1, 92), (1, 92)] rfl (by decide +kernel)
set_option maxRecDepth 100000 in
theorem ck_Tape_takeWord : xok z_Tape_takeWord := xok_of (by decide +kernel) [(3, 33), (1, 92), (1, 83), (1, 82), (1, 92), (3, 28), (1, 3), (3, 27), (1, 92), (1, 92), (3, 35), (1, 3), (3, 34), (3, 55), (3, 57), (0, 4), (1, 3)] rfl (by decide +kernel)
set_option maxRecDepth 100000 in
theorem ck_Tape_isSpelled : xok z_Tape_isSpelled := xok_of (by decide +kernel) [(3, 58), (1, 92), (1, 91), (3, 59), (3, 59), (1, 91), (1, 82), (1, 91), (3, 69)] rfl (by decide +kernel)
set_option maxRecDepth 100000 in
theorem ck_Tape_takeSign : xok z_Tape_takeSign := xok_of (by decide +kernel) [(3, 110), (1, 82), (1, 92), (1, 92), (1, 92), (1, 92), (1, 83), (1, 82), (1, 92), (1, 92), (1, 92)] rfl (by decide +kernel)
set_option maxRecDepth 100000 in
theorem ck_Tape_isDigit : xok z_Tape_isDigit := xok_of (by decide +kernel) [(3, 22)] rfl (by decide +kernel)
set_option maxRecDepth 100000 in
theorem ck_Tape_isLetter : xok z_Tape_isLetter := xok_of (by decide +kernel) [(3, 29)] rfl (by decide +kernel)
set_option maxRecDepth 100000 in
theorem ck_Tape_spelling : xok z_Tape_spelling := xok_of (by decide +kernel) [(3, 36)] rfl (by decide +kernel)
set_option maxRecDepth 100000 in
theorem ck_Text_init : xok z_Text_init := xok_of (by decide +kernel) [(1, 35), (1, 36), (1, 25), (1, 26), (1, 75), (1, 37), (1, 75), (1, 39), (1, 75), (1, 41), (1, 75), (1, 43), (1, 75), (1, 45), (1, 75), (1, 47), (1, 75), (1, 49)] rfl (by decide +kernel)
set_option maxRecDepth 100000 in
theorem ck_Text_clear : xok z_Text_clear := xok_of (by decide +kernel) [(3, 15), (1, 51), (1, 53)] rfl (by decide +kernel)
set_option maxRecDepth 100000 in
theorem ck_Text_add : xok z_Text_add := xok_of (by decide +kernel) [(3, 142), (1, 51), (1, 37), (1, 51), (1, 39), (1, 51), (1, 41), (1, 51), (1, 43), (1, 51), (1, 51), (1, 51), (1, 51)] rfl (by decide +kernel)
set_option maxRecDepth 100000 in
theorem ck_Text_skipFrom : xok z_Text_skipFrom := xok_of (by decide +kernel) [(3, 166), (1, 51), (1, 41)] rfl (by decide +kernel)
set_option maxRecDepth 100000 in
theorem ck_Text_addClause : xok z_Text_addClause := xok_of (by decide +kernel) [(3, 174), (1, 53), (1, 45), (1, 53), (1, 47), (1, 53), (1, 49), (1, 53), (1, 53), (1, 53)] rfl (by decide +kernel)
set_option maxRecDepth 100000 in
theorem ck_Text_clauseOf : xok z_Text_clauseOf := xok_of (by decide +kernel) [(3, 126), (1, 53), (1, 45)] rfl (by decide +kernel)
set_option maxRecDepth 100000 in
theorem ck_Tries_init : xok z_Tries_init := xok_of (by decide +kernel) [(1, 150), (1, 151), (1, 25), (1, 26), (1, 152), (1, 75), (1, 200), (1, 196), (1, 197), (1, 154), (1, 155), (1, 6), (1, 157), (1, 6), (1, 156), (1, 198), (1, 154), (1, 155), (1, 6), (1, 157), (1, 6), (1, 156), (1, 199)] rfl (by decide +kernel)
set_option maxRecDepth 100000 in
theorem ck_Tries_agreement : xok z_Tries_agreement := xok_of (by decide +kernel) [(4, 44), (1, 198), (4, 45), (3, 189), (3, 190), (1, 6), (1, 198), (4, 46), (4, 47), (4, 48), (1, 6), (1, 197), (1, 198), (4, 50), (4, 33), (4, 34), (1, 4), (1, 197), (1, 198), (4, 51), (3, 208), (3, 209), (1, 4)] rfl (by decide +kernel)
set_option maxRecDepth 100000 in
theorem ck_Tries_slipsTo : xok z_Tries_slipsTo := xok_of (by decide +kernel) [(4, 166), (1, 198), (4, 45), (3, 189), (3, 190), (1, 6), (1, 197), (1, 198), (4, 51), (3, 208), (3, 209), (1, 4), (1, 196), (4, 167), (4, 169), (0, 29), (1, 5), (1, 197), (1, 199), (4, 51), (3, 208), (3, 209), (1, 4), (1, 197), (1, 199), (4, 174), (4, 24), (4, 25), (1, 4)] rfl (by decide +kernel)
set_option maxRecDepth 100000 in
theorem ck_Tries_slip : xok z_Tries_slip := xok_of (by decide +kernel) [(4, 170), (1, 197), (4, 171), (4, 8), (4, 9), (1, 4), (1, 197), (4, 172), (4, 0), (4, 1), (1, 4), (1, 198), (1, 173), (1, 198), (1, 167), (1, 199), (1, 198), (4, 173), (3, 201), (3, 202), (1, 6), (1, 199), (1, 173), (1, 199), (1, 167)] rfl (by decide +kernel)
set_option maxRecDepth 100000 in
theorem ck_Tries_unlikeRows : xok z_Tries_unlikeRows := xok_of (by decide +kernel) [(4, 182), (2, 59), (1, 200), (4, 183), (4, 185), (0, 30), (1, 5), (1, 200), (1, 200), (4, 188), (1, 5), (4, 187)] rfl (by decide +kernel)
set_option maxRecDepth 100000 in
theorem ck_Tries_watch : xok z_Tries_watch := xok_of (by decide +kernel) [(4, 186), (1, 198), (4, 45), (3, 189), (3, 190), (1, 6), (1, 197), (1, 198), (4, 51), (3, 208), (3, 209), (1, 4), (1, 198), (1, 173), (1, 198), (1, 167), (1, 197), (4, 172), (4, 0), (4, 1), (1, 4)] rfl (by decide +kernel)
set_option maxRecDepth 100000 in
theorem ck_Tries_isSameRow : xok z_Tries_isSameRow := xok_of (by decide +kernel) [(4, 189)] rfl (by decide +kernel)
set_option maxRecDepth 100000 in
theorem ck_Whole_init : xok z_Whole_init := xok_of (by decide +kernel) [(2, 120), (2, 121), (1, 25), (1, 26), (2, 122), (2, 47), (1, 9), (2, 49), (1, 9), (2, 123), (2, 148), (2, 124), (1, 155), (1, 6), (1, 157), (1, 6), (2, 125), (2, 150), (2, 126), (2, 127), (1, 12), (2, 129), (1, 12), (2, 128), (2, 152), (2, 146), (2, 96), (1, 10), (2, 98), (1, 10), (2, 154)] rfl (by decide +kernel)
set_option maxRecDepth 100000 in
theorem ck_Whole_copyFrom : xok z_Whole_copyFrom := xok_of (by decide +kernel) [(4, 197), (2, 148), (2, 148), (4, 198), (4, 147), (4, 148), (1, 9), (2, 150), (2, 150), (4, 199), (3, 201), (3, 202), (1, 6), (2, 152), (2, 152), (4, 200), (4, 201), (4, 202), (1, 12), (2, 154), (2, 154), (4, 204), (4, 205), (4, 206), (1, 10), (2, 156), (2, 156)] rfl (by decide +kernel)
set_option maxRecDepth 100000 in
theorem ck_C_init : xok z_C_init := xok_of (by decide +kernel) [(1, 23), (1, 24), (1, 25), (1, 26), (1, 28), (1, 1), (1, 27), (2, 169), (1, 30), (2, 170), (2, 170), (1, 30), (1, 32), (1, 2), (1, 34), (1, 2), (1, 76), (1, 77), (1, 3), (1, 79), (1, 3), (2, 171), (1, 113), (1, 114), (1, 4), (2, 169), (2, 170), (1, 116), (1, 4), (1, 115), (2, 172), (1, 146), (1, 147), (1, 5), (2, 169), (2, 172), (1, 149), (1, 5), (1, 148), (2, 173), (1, 212), (1, 213), (1, 7), (2, 169), (2, 172), (1, 215), (1, 7), (1, 214), (2, 174), (2, 46), (2, 47), (1, 9), (2, 169), (2, 49), (1, 9), (2, 48), (2, 175), (2, 95), (2, 96), (1, 10), (2, 98), (1, 10), (2, 176), (2, 116), (2, 117), (1, 11), (2, 169), (2, 119), (1, 11), (2, 118), (2, 177), (2, 116), (2, 117), (1, 11), (2, 169), (2, 119), (1, 11), (2, 118), (2, 178), (2, 179), (2, 180)] rfl (by decide +kernel)
set_option maxRecDepth 100000 in
theorem ck_C_elder : xok z_C_elder := xok_of (by decide +kernel) [(2, 209), (2, 210), (2, 212), (0, 0), (1, 1), (2, 215), (1, 1), (2, 214), (2, 215), (1, 1), (2, 214), (2, 177), (2, 149), (2, 53), (2, 177), (2, 149), (2, 58)] rfl (by decide +kernel)
set_option maxRecDepth 100000 in
theorem ck_C_stuck : xok z_C_stuck := xok_of (by decide +kernel) [(2, 220), (2, 210), (2, 212), (0, 0), (1, 1), (2, 177), (2, 149), (2, 71)] rfl (by decide +kernel)
set_option maxRecDepth 100000 in
theorem ck_C_lies : xok z_C_lies := xok_of (by decide +kernel) [(2, 224), (2, 210), (2, 212), (0, 0), (1, 1), (2, 226), (1, 1), (2, 225), (2, 226), (1, 1), (2, 225), (2, 177), (2, 149), (2, 62), (2, 177), (2, 149), (2, 65), (2, 177), (2, 149), (2, 68)] rfl (by decide +kernel)
set_option maxRecDepth 100000 in
theorem ck_C_bar : xok z_C_bar := xok_of (by decide +kernel) [(2, 231), (2, 215), (1, 1), (2, 214), (2, 177), (2, 149), (2, 74)] rfl (by decide +kernel)
set_option maxRecDepth 100000 in
theorem ck_C_feed : xok z_C_feed := xok_of (by decide +kernel) [(2, 235), (2, 171), (1, 84), (2, 171), (2, 236), (2, 237), (2, 238), (1, 3), (2, 171), (2, 236), (2, 237), (2, 238), (1, 3), (2, 171), (2, 236), (2, 237), (2, 238), (1, 3), (2, 171), (2, 236), (2, 237), (2, 238), (1, 3), (2, 171), (2, 236), (2, 237), (2, 238), (1, 3), (2, 171), (1, 84)] rfl (by decide +kernel)
set_option maxRecDepth 100000 in
theorem ck_C_end : xok z_C_end := xok_of (by decide +kernel) [(3, 3), (2, 171), (1, 84), (2, 171), (1, 84)] rfl (by decide +kernel)
set_option maxRecDepth 100000 in
theorem ck_C_text : xok z_C_text := xok_of (by decide +kernel) [(3, 7), (2, 177), (2, 157), (2, 215), (1, 1), (2, 214), (2, 171), (2, 170), (3, 8), (3, 9), (3, 10), (1, 3), (2, 171), (1, 86), (2, 179), (2, 171), (1, 88), (2, 180), (2, 171), (1, 84), (2, 177), (2, 157)] rfl (by decide +kernel)
set_option maxRecDepth 100000 in
theorem ck_C_fault : xok z_C_fault := xok_of (by decide +kernel) [(3, 179), (2, 179), (2, 180)] rfl (by decide +kernel)
set_option maxRecDepth 100000 in
theorem ck_C_by : xok z_C_by := xok_of (by decide +kernel) [(3, 183), (2, 177), (2, 157), (2, 215), (1, 1), (2, 214), (2, 177), (2, 149), (2, 77)] rfl (by decide +kernel)
set_option maxRecDepth 100000 in
theorem ck_C_start : xok z_C_start := xok_of (by decide +kernel) [(3, 187), (2, 177), (2, 151), (1, 184), (2, 177), (2, 151), (2, 177), (2, 149), (3, 188), (3, 189), (3, 190), (1, 6), (2, 177), (2, 153), (2, 138)] rfl (by decide +kernel)
set_option maxRecDepth 100000 in
theorem ck_C_hours : xok z_C_hours := xok_of (by decide +kernel) [(3, 195), (2, 215), (1, 1), (2, 214), (2, 177), (2, 151), (1, 184), (2, 177), (2, 153), (2, 177), (2, 151), (3, 196), (3, 197), (3, 198), (1, 12), (2, 172), (2, 177), (2, 149), (2, 177), (2, 151), (3, 207), (3, 208), (3, 209), (1, 4), (2, 177), (2, 151), (1, 184)] rfl (by decide +kernel)
set_option maxRecDepth 100000 in
theorem ck_C_undo : xok z_C_undo := xok_of (by decide +kernel) [(4, 14), (2, 177), (2, 153), (2, 177), (2, 151), (4, 15), (4, 16), (4, 17), (1, 12), (2, 177), (2, 151), (1, 184)] rfl (by decide +kernel)
set_option maxRecDepth 100000 in
theorem ck_C_of : xok z_C_of := xok_of (by decide +kernel) [(4, 22), (2, 210), (2, 212), (0, 0), (1, 1), (2, 177), (2, 151), (1, 163), (2, 177), (2, 151), (1, 169), (2, 177), (2, 151), (1, 175), (2, 172), (2, 177), (2, 149), (2, 177), (2, 151), (4, 23), (4, 24), (4, 25), (1, 4), (2, 177), (2, 149), (2, 53), (2, 177), (2, 149), (2, 58), (2, 177), (2, 149), (2, 71)] rfl (by decide +kernel)
set_option maxRecDepth 100000 in
theorem ck_C_agree : xok z_C_agree := xok_of (by decide +kernel) [(4, 31), (2, 172), (2, 177), (2, 149), (2, 177), (2, 151), (4, 32), (4, 33), (4, 34), (1, 4)] rfl (by decide +kernel)
set_option maxRecDepth 100000 in
theorem ck_C_agrees : xok z_C_agrees := xok_of (by decide +kernel) [(4, 40), (2, 215), (1, 1), (2, 214), (2, 173), (2, 177), (2, 149), (4, 41), (4, 42), (4, 43), (1, 5)] rfl (by decide +kernel)
set_option maxRecDepth 100000 in
theorem ck_C_holds : xok z_C_holds := xok_of (by decide +kernel) [(4, 55), (4, 56), (4, 58), (0, 21), (1, 1), (2, 174), (2, 177), (2, 149), (2, 176), (4, 64), (4, 65), (4, 66), (1, 7), (2, 174), (2, 177), (2, 149), (4, 113), (4, 114), (4, 115), (1, 7)] rfl (by decide +kernel)
set_option maxRecDepth 100000 in
theorem ck_C_states : xok z_C_states := xok_of (by decide +kernel) [(4, 121), (4, 56), (4, 58), (0, 21), (1, 1), (2, 174), (2, 177), (2, 149), (2, 176), (4, 64), (4, 65), (4, 66), (1, 7), (2, 174), (2, 9), (1, 232)] rfl (by decide +kernel)
set_option maxRecDepth 100000 in
theorem ck_C_bad : xok z_C_bad := xok_of (by decide +kernel) [(4, 125), (4, 56), (4, 58), (0, 21), (1, 1), (2, 215), (1, 1), (2, 214), (2, 215), (1, 1), (2, 214), (2, 177), (2, 149), (4, 60), (4, 61), (4, 62), (1, 9), (2, 215), (1, 1), (2, 214), (2, 174), (2, 177), (2, 149), (2, 176), (4, 64), (4, 65), (4, 66), (1, 7), (2, 174), (2, 177), (2, 149), (4, 113), (4, 114), (4, 115), (1, 7), (2, 174), (4, 126), (4, 127), (4, 128), (1, 7)] rfl (by decide +kernel)
set_option maxRecDepth 100000 in
theorem ck_C_told : xok z_C_told := xok_of (by decide +kernel) [(4, 133), (2, 210), (2, 212), (0, 0), (1, 1), (2, 226), (1, 1), (2, 225), (2, 226), (1, 1), (2, 225), (2, 177), (2, 155), (4, 134), (4, 135), (4, 136), (1, 10), (2, 177), (2, 155), (2, 106)] rfl (by decide +kernel)
set_option maxRecDepth 100000 in
theorem ck_C_forget : xok z_C_forget := xok_of (by decide +kernel) [(4, 141), (2, 177), (2, 155), (2, 106), (2, 177), (2, 155), (2, 106)] rfl (by decide +kernel)
set_option maxRecDepth 100000 in
theorem ck_C_suspects : xok z_C_suspects := xok_of (by decide +kernel) [(4, 145), (2, 215), (1, 1), (2, 214), (2, 177), (2, 155), (2, 106), (2, 175), (2, 177), (2, 149), (4, 146), (4, 147), (4, 148), (1, 9), (2, 175), (4, 151), (4, 152), (4, 153), (1, 9), (4, 155), (4, 157), (0, 28), (1, 1), (2, 169), (2, 177), (2, 155), (2, 104), (2, 175), (2, 53), (2, 175), (2, 53), (4, 155), (4, 157), (0, 28), (1, 1), (2, 175), (2, 53)] rfl (by decide +kernel)
set_option maxRecDepth 100000 in
theorem ck_C_slips : xok z_C_slips := xok_of (by decide +kernel) [(4, 162), (2, 215), (1, 1), (2, 214), (2, 210), (2, 212), (0, 0), (1, 1), (2, 215), (1, 1), (2, 214), (2, 173), (2, 177), (2, 149), (4, 163), (4, 164), (4, 165), (1, 5)] rfl (by decide +kernel)
set_option maxRecDepth 100000 in
theorem ck_C_learns : xok z_C_learns := xok_of (by decide +kernel) [(4, 178), (2, 210), (2, 212), (0, 0), (1, 1), (2, 215), (1, 1), (2, 214), (2, 210), (2, 212), (0, 0), (1, 1), (2, 175), (2, 177), (2, 149), (4, 146), (4, 147), (4, 148), (1, 9), (2, 173), (2, 175), (4, 179), (4, 180), (4, 181), (1, 5)] rfl (by decide +kernel)
set_option maxRecDepth 100000 in
theorem ck_C_image : xok z_C_image := xok_of (by decide +kernel) [(4, 193), (2, 178), (2, 177), (4, 194), (4, 195), (4, 196), (1, 11), (2, 177), (2, 151), (1, 184)] rfl (by decide +kernel)
set_option maxRecDepth 100000 in
theorem ck_C_back : xok z_C_back := xok_of (by decide +kernel) [(4, 212), (2, 177), (2, 178), (4, 194), (4, 195), (4, 196), (1, 11), (2, 177), (2, 151), (1, 184)] rfl (by decide +kernel)
set_option maxRecDepth 100000 in
theorem ck_C_about : xok z_C_about := xok_of (by decide +kernel) [(4, 216), (2, 169), (2, 177), (2, 151), (1, 184), (2, 177), (2, 151), (1, 179), (2, 177), (2, 157), (2, 177), (2, 149), (2, 77), (2, 177), (2, 153), (2, 138), (2, 177), (2, 155), (2, 106), (2, 177), (2, 155), (2, 106), (2, 177), (2, 155), (2, 104), (2, 171), (1, 84), (2, 177), (2, 149), (4, 217), (4, 218), (4, 219), (1, 9)] rfl (by decide +kernel)
set_option maxRecDepth 100000 in
theorem ck_C_isRoom : xok z_C_isRoom := xok_of (by decide +kernel) [(2, 213), (2, 169)] rfl (by decide +kernel)
set_option maxRecDepth 100000 in
theorem ck_C_isRunAsked : xok z_C_isRunAsked := xok_of (by decide +kernel) [(4, 59), (2, 215), (1, 1), (2, 214), (2, 215), (1, 1), (2, 214), (2, 177), (2, 149), (4, 60), (4, 61), (4, 62), (1, 9)] rfl (by decide +kernel)
set_option maxRecDepth 100000 in
theorem ck_C_canBeHeard : xok z_C_canBeHeard := xok_of (by decide +kernel) [(4, 158), (2, 174), (2, 175), (2, 177), (2, 155), (2, 106), (2, 177), (2, 155), (4, 64), (4, 65), (4, 66), (1, 7), (2, 174), (2, 9), (1, 232)] rfl (by decide +kernel)
set_option maxRecDepth 100000 in
theorem ck_C_isNoteOrNone : xok z_C_isNoteOrNone := xok_of (by decide +kernel) [(2, 227), (2, 215), (1, 1), (2, 214)] rfl (by decide +kernel)
set_option maxRecDepth 100000 in
theorem ck_C_isWithin : xok z_C_isWithin := xok_of (by decide +kernel) [(2, 216)] rfl (by decide +kernel)
set_option maxRecDepth 100000 in
theorem ck_C_bounded : xok z_C_bounded := xok_of (by decide +kernel) [(1, 29)] rfl (by decide +kernel)
set_option maxRecDepth 100000 in
theorem ck_M_init : xok z_M_init := xok_of (by decide +kernel) [(4, 228), (4, 229), (1, 25), (1, 26), (1, 75), (4, 238), (1, 75), (4, 239), (1, 75), (5, 1), (1, 75), (5, 2), (5, 4), (5, 5), (1, 75), (5, 13), (1, 75), (5, 18), (5, 117), (5, 19), (1, 145), (5, 20), (1, 75), (5, 21), (1, 75), (5, 22), (1, 75), (5, 23), (4, 230), (1, 75), (5, 24), (1, 75), (5, 25), (1, 75), (5, 26), (1, 75), (5, 27), (1, 75), (5, 28), (1, 75), (5, 29), (1, 75), (5, 30), (1, 75), (5, 33), (1, 75), (5, 34), (1, 75), (5, 35), (5, 0), (4, 238), (4, 238), (4, 238), (4, 238), (4, 238), (4, 231), (4, 233), (0, 31), (1, 13), (4, 238), (4, 239), (4, 236), (1, 13), (4, 235)] rfl (by decide +kernel)
set_option maxRecDepth 100000 in
theorem ck_M_copy : xok z_M_copy := xok_of (by decide +kernel) [(4, 237)] rfl (by decide +kernel)
set_option maxRecDepth 100000 in
theorem ck_M_isIn : xok z_M_isIn := xok_of (by decide +kernel) [(5, 128)] rfl (by decide +kernel)
set_option maxRecDepth 100000 in
theorem ck_M_held : xok z_M_held := xok_of (by decide +kernel) [(6, 104)] rfl (by decide +kernel)
set_option maxRecDepth 100000 in
theorem ck_M_isRoom : xok z_M_isRoom := xok_of (by decide +kernel) [(5, 125), (5, 0), (5, 127), (1, 13), (5, 126)] rfl (by decide +kernel)
set_option maxRecDepth 100000 in
theorem ck_M_leftOf : xok z_M_leftOf := xok_of (by decide +kernel) [(6, 62), (5, 0)] rfl (by decide +kernel)
set_option maxRecDepth 100000 in
theorem ck_M_rightOf : xok z_M_rightOf := xok_of (by decide +kernel) [(6, 70), (5, 0)] rfl (by decide +kernel)
set_option maxRecDepth 100000 in
theorem ck_M_begin : xok z_M_begin := xok_of (by decide +kernel) [(4, 234), (4, 238)] rfl (by decide +kernel)
set_option maxRecDepth 100000 in
theorem ck_M_elder : xok z_M_elder := xok_of (by decide +kernel) [(5, 121), (5, 122), (5, 124), (0, 32), (1, 13), (5, 127), (1, 13), (5, 126), (5, 127), (1, 13), (5, 126), (4, 238), (4, 238)] rfl (by decide +kernel)
set_option maxRecDepth 100000 in
theorem ck_M_stuck : xok z_M_stuck := xok_of (by decide +kernel) [(5, 132), (5, 122), (5, 124), (0, 32), (1, 13), (4, 238)] rfl (by decide +kernel)
set_option maxRecDepth 100000 in
theorem ck_M_lies : xok z_M_lies := xok_of (by decide +kernel) [(5, 136), (5, 122), (5, 124), (0, 32), (1, 13), (5, 127), (1, 13), (5, 126), (5, 127), (1, 13), (5, 126), (4, 238), (4, 238), (4, 238)] rfl (by decide +kernel)
set_option maxRecDepth 100000 in
theorem ck_M_bar : xok z_M_bar := xok_of (by decide +kernel) [(5, 140), (5, 127), (1, 13), (5, 126), (4, 238)] rfl (by decide +kernel)
set_option maxRecDepth 100000 in
theorem ck_M_four : xok z_M_four := xok_of (by decide +kernel) [(5, 148), (5, 2), (5, 3), (5, 3), (5, 3)] rfl (by decide +kernel)
set_option maxRecDepth 100000 in
theorem ck_M_feed : xok z_M_feed := xok_of (by decide +kernel) [(5, 144), (5, 3), (5, 145), (5, 147), (0, 33), (1, 13), (5, 145), (5, 147), (0, 33), (1, 13), (5, 145), (5, 147), (0, 33), (1, 13), (5, 145), (5, 147), (0, 33), (1, 13), (5, 145), (5, 147), (0, 33), (1, 13), (5, 3)] rfl (by decide +kernel)
set_option maxRecDepth 100000 in
theorem ck_M_end : xok z_M_end := xok_of (by decide +kernel) [(5, 152), (5, 3), (5, 127), (1, 13), (5, 126), (5, 3)] rfl (by decide +kernel)
set_option maxRecDepth 100000 in
theorem ck_M_byteAt : xok z_M_byteAt := xok_of (by decide +kernel) [(5, 168), (5, 3), (5, 2)] rfl (by decide +kernel)
set_option maxRecDepth 100000 in
theorem ck_M_isLetter : xok z_M_isLetter := xok_of (by decide +kernel) [(5, 175), (5, 127), (1, 13), (5, 126), (5, 127), (1, 13), (5, 126)] rfl (by decide +kernel)
set_option maxRecDepth 100000 in
theorem ck_M_isDigit : xok z_M_isDigit := xok_of (by decide +kernel) [(5, 171), (5, 127), (1, 13), (5, 126)] rfl (by decide +kernel)
set_option maxRecDepth 100000 in
theorem ck_M_nextToken : xok z_M_nextToken := xok_of (by decide +kernel) [(5, 164), (5, 6), (5, 165), (5, 167), (0, 36), (1, 13), (5, 6), (5, 165), (5, 167), (0, 36), (1, 13), (5, 6), (5, 6), (5, 6), (5, 7), (5, 6), (5, 165), (5, 167), (0, 36), (1, 13), (5, 8), (5, 170), (1, 13), (5, 169), (5, 8), (5, 9), (5, 6), (5, 165), (5, 167), (0, 36), (1, 13), (5, 170), (1, 13), (5, 169), (5, 9), (5, 172), (5, 9), (5, 6), (5, 165), (5, 167), (0, 36), (1, 13), (5, 9), (5, 6), (5, 6), (5, 174), (1, 13), (5, 173), (5, 8), (5, 10), (5, 6), (5, 165), (5, 167), (0, 36), (1, 13), (5, 174), (1, 13), (5, 173), (5, 6), (5, 7), (5, 10), (5, 6), (5, 165), (5, 167), (0, 36), (1, 13), (5, 10), (5, 6), (5, 6), (5, 6), (5, 7), (5, 10), (5, 6), (5, 6), (5, 8), (5, 6), (5, 165), (5, 167), (0, 36), (1, 13), (5, 6), (5, 6), (5, 8)] rfl (by decide +kernel)
set_option maxRecDepth 100000 in
theorem ck_M_w3 : xok z_M_w3 := xok_of (by decide +kernel) [(5, 189)] rfl (by decide +kernel)
set_option maxRecDepth 100000 in
theorem ck_M_w5 : xok z_M_w5 := xok_of (by decide +kernel) [(5, 196), (5, 188), (1, 13), (5, 187)] rfl (by decide +kernel)
set_option maxRecDepth 100000 in
theorem ck_M_w4 : xok z_M_w4 := xok_of (by decide +kernel) [(5, 186), (5, 188), (1, 13), (5, 187)] rfl (by decide +kernel)
set_option maxRecDepth 100000 in
theorem ck_M_isWord : xok z_M_isWord := xok_of (by decide +kernel) [(5, 193), (5, 8), (5, 10)] rfl (by decide +kernel)
set_option maxRecDepth 100000 in
theorem ck_M_emit : xok z_M_emit := xok_of (by decide +kernel) [(5, 236), (5, 1), (5, 11), (5, 12), (5, 1), (5, 11), (5, 12), (5, 12), (5, 12)] rfl (by decide +kernel)
set_option maxRecDepth 100000 in
theorem ck_M_push : xok z_M_push := xok_of (by decide +kernel) [(6, 0), (5, 13), (5, 14), (5, 14), (5, 14)] rfl (by decide +kernel)
set_option maxRecDepth 100000 in
theorem ck_M_rank : xok z_M_rank := xok_of (by decide +kernel) [(5, 223)] rfl (by decide +kernel)
set_option maxRecDepth 100000 in
theorem ck_M_settle : xok z_M_settle := xok_of (by decide +kernel) [(5, 232), (5, 14), (5, 13), (5, 14), (5, 222), (1, 13), (5, 221), (5, 14), (5, 14), (5, 13), (5, 14), (5, 233), (5, 235), (0, 48), (1, 13), (5, 13), (5, 14), (5, 13), (5, 14), (5, 15), (5, 15)] rfl (by decide +kernel)
set_option maxRecDepth 100000 in
theorem ck_M_whole : xok z_M_whole := xok_of (by decide +kernel) [(6, 4), (5, 16), (5, 229), (5, 231), (0, 47), (1, 13)] rfl (by decide +kernel)
set_option maxRecDepth 100000 in
theorem ck_M_marker : xok z_M_marker := xok_of (by decide +kernel) [(5, 216), (5, 14), (5, 13)] rfl (by decide +kernel)
set_option maxRecDepth 100000 in
theorem ck_M_kindOpen : xok z_M_kindOpen := xok_of (by decide +kernel) [(5, 212), (5, 213), (5, 215), (0, 44), (1, 13), (5, 13)] rfl (by decide +kernel)
set_option maxRecDepth 100000 in
theorem ck_M_isCompared : xok z_M_isCompared := xok_of (by decide +kernel) [(5, 220), (5, 14), (5, 13), (5, 222), (1, 13), (5, 221), (5, 13), (5, 222), (1, 13), (5, 221)] rfl (by decide +kernel)
set_option maxRecDepth 100000 in
theorem ck_M_isAskAhead : xok z_M_isAskAhead := xok_of (by decide +kernel) [(6, 26), (5, 209), (5, 211), (0, 43), (1, 13), (5, 14), (5, 13), (5, 14), (5, 13), (5, 14), (5, 222), (1, 13), (5, 221), (5, 127), (1, 13), (5, 126)] rfl (by decide +kernel)
set_option maxRecDepth 100000 in
theorem ck_M_opensBy : xok z_M_opensBy := xok_of (by decide +kernel) [(6, 21), (5, 15), (5, 15), (5, 15), (5, 237), (5, 239), (0, 49), (1, 13), (5, 161), (5, 163), (0, 35), (1, 13)] rfl (by decide +kernel)
set_option maxRecDepth 100000 in
theorem ck_M_beginOne : xok z_M_beginOne := xok_of (by decide +kernel) [(6, 8), (5, 8), (5, 9), (6, 9), (6, 11), (0, 52), (1, 13), (5, 8), (5, 8), (5, 8), (5, 9), (5, 233), (5, 235), (0, 48), (1, 13), (5, 161), (5, 163), (0, 35), (1, 13), (6, 1), (6, 3), (0, 50), (1, 13), (5, 8), (6, 18), (6, 20), (0, 54), (1, 13), (5, 8), (6, 18), (6, 20), (0, 54), (1, 13), (5, 8), (5, 10), (6, 22), (6, 18), (6, 20), (0, 54), (1, 13), (5, 188), (1, 13), (5, 187), (5, 190), (5, 192), (0, 39), (1, 13), (6, 23), (6, 25), (0, 55), (1, 13), (6, 18), (6, 20), (0, 54), (1, 13)] rfl (by decide +kernel)
set_option maxRecDepth 100000 in
theorem ck_M_compareOf : xok z_M_compareOf := xok_of (by decide +kernel) [(5, 227), (5, 8), (5, 8), (5, 8), (5, 8), (5, 8), (5, 8)] rfl (by decide +kernel)
set_option maxRecDepth 100000 in
theorem ck_M_betweenOf : xok z_M_betweenOf := xok_of (by decide +kernel) [(5, 208), (5, 8), (5, 8), (5, 8), (5, 8), (5, 209), (5, 211), (0, 43), (1, 13), (5, 217), (5, 219), (0, 45), (1, 13), (5, 224), (5, 226), (0, 46), (1, 13), (5, 188), (1, 13), (5, 187), (5, 190), (5, 192), (0, 39), (1, 13), (5, 8), (5, 10), (5, 228)] rfl (by decide +kernel)
set_option maxRecDepth 100000 in
theorem ck_M_behindOne : xok z_M_behindOne := xok_of (by decide +kernel) [(5, 204), (5, 205), (5, 207), (0, 42), (1, 13), (5, 213), (5, 215), (0, 44), (1, 13), (5, 13), (5, 222), (1, 13), (5, 221), (5, 229), (5, 231), (0, 47), (1, 13), (5, 237), (5, 239), (0, 49), (1, 13), (5, 16), (5, 8), (5, 188), (1, 13), (5, 187), (5, 190), (5, 192), (0, 39), (1, 13), (5, 229), (5, 231), (0, 47), (1, 13), (5, 14), (5, 14), (5, 15), (5, 15), (5, 233), (5, 235), (0, 48), (1, 13), (6, 1), (6, 3), (0, 50), (1, 13), (5, 8), (5, 217), (5, 219), (0, 45), (1, 13), (5, 8), (5, 229), (5, 231), (0, 47), (1, 13), (5, 13), (5, 16), (5, 161), (5, 163), (0, 35), (1, 13)] rfl (by decide +kernel)
set_option maxRecDepth 100000 in
theorem ck_M_parsed : xok z_M_parsed := xok_of (by decide +kernel) [(5, 200), (5, 14), (5, 16), (5, 16), (5, 201), (5, 203), (0, 41), (1, 13), (6, 5), (6, 7), (0, 51), (1, 13), (5, 213), (5, 215), (0, 44), (1, 13), (5, 217), (5, 219), (0, 45), (1, 13), (5, 229), (5, 231), (0, 47), (1, 13)] rfl (by decide +kernel)
set_option maxRecDepth 100000 in
theorem ck_M_isGotRight : xok z_M_isGotRight := xok_of (by decide +kernel) [(6, 17), (5, 6), (5, 7), (5, 7), (5, 165), (5, 167), (0, 36), (1, 13), (5, 7), (5, 165), (5, 167), (0, 36), (1, 13), (5, 7), (5, 165), (5, 167), (0, 36), (1, 13), (5, 7), (5, 165), (5, 167), (0, 36), (1, 13), (5, 7), (5, 165), (5, 167), (0, 36), (1, 13), (5, 7), (5, 165), (5, 167), (0, 36), (1, 13), (5, 7), (5, 165), (5, 167), (0, 36), (1, 13), (5, 7), (5, 165), (5, 167), (0, 36), (1, 13)] rfl (by decide +kernel)
set_option maxRecDepth 100000 in
theorem ck_M_nameOf : xok z_M_nameOf := xok_of (by decide +kernel) [(6, 12), (5, 8), (5, 10), (6, 13), (5, 10), (5, 185), (1, 13), (5, 184), (5, 10), (5, 188), (1, 13), (5, 187), (5, 185), (1, 13), (5, 184), (6, 14), (6, 16), (0, 53), (1, 13), (5, 10), (5, 185), (1, 13), (5, 184), (5, 10), (5, 185), (1, 13), (5, 184), (5, 10), (5, 195), (1, 13), (5, 194), (5, 10), (5, 195), (1, 13), (5, 194)] rfl (by decide +kernel)
set_option maxRecDepth 100000 in
theorem ck_M_sortOf : xok z_M_sortOf := xok_of (by decide +kernel) [(5, 183), (5, 185), (1, 13), (5, 184), (5, 190), (5, 192), (0, 39), (1, 13), (5, 185), (1, 13), (5, 184), (5, 190), (5, 192), (0, 39), (1, 13), (5, 195), (1, 13), (5, 194), (5, 190), (5, 192), (0, 39), (1, 13), (5, 185), (1, 13), (5, 184), (5, 190), (5, 192), (0, 39), (1, 13), (5, 185), (1, 13), (5, 184), (5, 190), (5, 192), (0, 39), (1, 13)] rfl (by decide +kernel)
set_option maxRecDepth 100000 in
theorem ck_M_clause : xok z_M_clause := xok_of (by decide +kernel) [(5, 179), (5, 180), (5, 182), (0, 38), (1, 13), (5, 17), (5, 1), (5, 11), (5, 17), (5, 17), (5, 161), (5, 163), (0, 35), (1, 13), (5, 11), (5, 1), (5, 1), (5, 12), (5, 197), (5, 199), (0, 40), (1, 13), (5, 1), (5, 12), (5, 1), (5, 11), (5, 8), (5, 161), (5, 163), (0, 35), (1, 13)] rfl (by decide +kernel)
set_option maxRecDepth 100000 in
theorem ck_M_readText : xok z_M_readText := xok_of (by decide +kernel) [(5, 160), (4, 238), (5, 11), (5, 1), (5, 11), (5, 12), (5, 15), (5, 17), (5, 6), (5, 161), (5, 163), (0, 35), (1, 13), (5, 8), (5, 176), (5, 178), (0, 37), (1, 13)] rfl (by decide +kernel)
set_option maxRecDepth 100000 in
theorem ck_M_text : xok z_M_text := xok_of (by decide +kernel) [(5, 156), (4, 238), (5, 157), (5, 159), (0, 34), (1, 13), (5, 4), (5, 4), (5, 7), (5, 5), (5, 3), (5, 4), (4, 238), (4, 238)] rfl (by decide +kernel)
set_option maxRecDepth 100000 in
theorem ck_M_fault : xok z_M_fault := xok_of (by decide +kernel) [(6, 30), (5, 4), (5, 5)] rfl (by decide +kernel)
set_option maxRecDepth 100000 in
theorem ck_M_by : xok z_M_by := xok_of (by decide +kernel) [(6, 34), (4, 238), (5, 127), (1, 13), (5, 126), (4, 238)] rfl (by decide +kernel)
set_option maxRecDepth 100000 in
theorem ck_M_clip : xok z_M_clip := xok_of (by decide +kernel) [(6, 96), (6, 97), (6, 97), (6, 98), (6, 98)] rfl (by decide +kernel)
set_option maxRecDepth 100000 in
theorem ck_M_two : xok z_M_two := xok_of (by decide +kernel) [(6, 93), (6, 95), (1, 13), (6, 94), (6, 95), (1, 13), (6, 94), (6, 95), (1, 13), (6, 94), (6, 95), (1, 13), (6, 94)] rfl (by decide +kernel)
set_option maxRecDepth 100000 in
theorem ck_M_isAsked : xok z_M_isAsked := xok_of (by decide +kernel) [(6, 101)] rfl (by decide +kernel)
set_option maxRecDepth 100000 in
theorem ck_M_work : xok z_M_work := xok_of (by decide +kernel) [(6, 90), (4, 238), (4, 238), (5, 1), (5, 1), (5, 1), (5, 1), (5, 19), (5, 18), (5, 19), (5, 19), (5, 19), (5, 19), (5, 19), (6, 92), (1, 13), (6, 91), (5, 20), (5, 19), (5, 19), (6, 100), (1, 13), (6, 99), (5, 20), (5, 20), (5, 19), (5, 20), (5, 19), (5, 19), (5, 20), (5, 20), (5, 20), (5, 20), (5, 20)] rfl (by decide +kernel)
set_option maxRecDepth 100000 in
theorem ck_M_clauses : xok z_M_clauses := xok_of (by decide +kernel) [(6, 82), (4, 238), (5, 1), (4, 238)] rfl (by decide +kernel)
set_option maxRecDepth 100000 in
theorem ck_M_sortAt : xok z_M_sortAt := xok_of (by decide +kernel) [(6, 86), (5, 1), (4, 238)] rfl (by decide +kernel)
set_option maxRecDepth 100000 in
theorem ck_M_sumOf : xok z_M_sumOf := xok_of (by decide +kernel) [(6, 78), (6, 79), (6, 81), (0, 65), (1, 13), (6, 83), (6, 85), (0, 66), (1, 13), (6, 87), (6, 89), (0, 67), (1, 13), (5, 19), (6, 103), (1, 13), (6, 102)] rfl (by decide +kernel)
set_option maxRecDepth 100000 in
theorem ck_M_pulls : xok z_M_pulls := xok_of (by decide +kernel) [(6, 108), (6, 79), (6, 81), (0, 65), (1, 13), (6, 83), (6, 85), (0, 66), (1, 13), (6, 87), (6, 89), (0, 67), (1, 13), (5, 20)] rfl (by decide +kernel)
set_option maxRecDepth 100000 in
theorem ck_M_asTold : xok z_M_asTold := xok_of (by decide +kernel) [(6, 46), (5, 21), (4, 238), (5, 22), (4, 238)] rfl (by decide +kernel)
set_option maxRecDepth 100000 in
theorem ck_M_name : xok z_M_name := xok_of (by decide +kernel) [(6, 74), (5, 18), (5, 18), (5, 18), (5, 18), (5, 18), (5, 18), (5, 18), (5, 21), (5, 18), (5, 0)] rfl (by decide +kernel)
set_option maxRecDepth 100000 in
theorem ck_M_says : xok z_M_says := xok_of (by decide +kernel) [(6, 120), (6, 71), (6, 73), (0, 63), (1, 13), (5, 18), (5, 18), (6, 75), (6, 77), (0, 64), (1, 13)] rfl (by decide +kernel)
set_option maxRecDepth 100000 in
theorem ck_M_areOne : xok z_M_areOne := xok_of (by decide +kernel) [(6, 128), (5, 0), (5, 22), (6, 117), (6, 119), (0, 69), (1, 13)] rfl (by decide +kernel)
set_option maxRecDepth 100000 in
theorem ck_M_put : xok z_M_put := xok_of (by decide +kernel) [(6, 66), (4, 238)] rfl (by decide +kernel)
set_option maxRecDepth 100000 in
theorem ck_M_write : xok z_M_write := xok_of (by decide +kernel) [(6, 58), (6, 59), (6, 61), (0, 60), (1, 13), (6, 63), (6, 65), (0, 61), (1, 13), (6, 67), (6, 69), (0, 62), (1, 13), (6, 63), (6, 65), (0, 61), (1, 13), (4, 238)] rfl (by decide +kernel)
set_option maxRecDepth 100000 in
theorem ck_M_go : xok z_M_go := xok_of (by decide +kernel) [(6, 54), (5, 0), (5, 22), (4, 238), (4, 238), (4, 238), (6, 55), (6, 57), (0, 59), (1, 13), (5, 22), (6, 71), (6, 73), (0, 63), (1, 13), (5, 18), (6, 75), (6, 77), (0, 64), (1, 13), (6, 75), (6, 77), (0, 64), (1, 13), (6, 75), (6, 77), (0, 64), (1, 13), (6, 105), (6, 107), (0, 68), (1, 13), (6, 55), (6, 57), (0, 59), (1, 13)] rfl (by decide +kernel)
set_option maxRecDepth 100000 in
theorem ck_M_goOn : xok z_M_goOn := xok_of (by decide +kernel) [(6, 140), (5, 23), (5, 23), (6, 51), (6, 53), (0, 58), (1, 13), (5, 23), (5, 23)] rfl (by decide +kernel)
set_option maxRecDepth 100000 in
theorem ck_M_start : xok z_M_start := xok_of (by decide +kernel) [(6, 38), (4, 238), (4, 238), (4, 238), (4, 231), (4, 233), (0, 31), (1, 13)] rfl (by decide +kernel)
set_option maxRecDepth 100000 in
theorem ck_M_keepHour : xok z_M_keepHour := xok_of (by decide +kernel) [(6, 50), (4, 238), (4, 238), (4, 238), (4, 238), (4, 238), (4, 238), (4, 238), (4, 238)] rfl (by decide +kernel)
set_option maxRecDepth 100000 in
theorem ck_M_hours : xok z_M_hours := xok_of (by decide +kernel) [(6, 42), (5, 127), (1, 13), (5, 126), (4, 238), (6, 43), (6, 45), (0, 56), (1, 13), (6, 47), (6, 49), (0, 57), (1, 13), (4, 238), (5, 23), (6, 51), (6, 53), (0, 58), (1, 13), (4, 238), (5, 23), (4, 238)] rfl (by decide +kernel)
set_option maxRecDepth 100000 in
theorem ck_M_undo : xok z_M_undo := xok_of (by decide +kernel) [(6, 112), (4, 238), (4, 238), (4, 238), (4, 238), (4, 238), (4, 238)] rfl (by decide +kernel)
set_option maxRecDepth 100000 in
theorem ck_M_of : xok z_M_of := xok_of (by decide +kernel) [(6, 116), (5, 122), (5, 124), (0, 32), (1, 13), (6, 43), (6, 45), (0, 56), (1, 13), (4, 238), (4, 238), (4, 238), (4, 238), (6, 117), (6, 119), (0, 69), (1, 13), (4, 238), (4, 238), (4, 238)] rfl (by decide +kernel)
set_option maxRecDepth 100000 in
theorem ck_M_agree : xok z_M_agree := xok_of (by decide +kernel) [(6, 124), (6, 43), (6, 45), (0, 56), (1, 13), (4, 238), (6, 125), (6, 127), (0, 70), (1, 13)] rfl (by decide +kernel)
set_option maxRecDepth 100000 in
theorem ck_M_notesIn : xok z_M_notesIn := xok_of (by decide +kernel) [(6, 136), (5, 0)] rfl (by decide +kernel)
set_option maxRecDepth 100000 in
theorem ck_M_agrees : xok z_M_agrees := xok_of (by decide +kernel) [(6, 132), (5, 127), (1, 13), (5, 126), (6, 43), (6, 45), (0, 56), (1, 13), (5, 23), (4, 231), (4, 233), (0, 31), (1, 13), (5, 23), (6, 133), (6, 135), (0, 71), (1, 13), (5, 23), (6, 125), (6, 127), (0, 70), (1, 13), (6, 137), (6, 139), (0, 72), (1, 13)] rfl (by decide +kernel)
set_option maxRecDepth 100000 in
theorem ck_M_stateAt : xok z_M_stateAt := xok_of (by decide +kernel) [(6, 171)] rfl (by decide +kernel)
set_option maxRecDepth 100000 in
theorem ck_M_sumOfRow : xok z_M_sumOfRow := xok_of (by decide +kernel) [(6, 186)] rfl (by decide +kernel)
set_option maxRecDepth 100000 in
theorem ck_M_isLike : xok z_M_isLike := xok_of (by decide +kernel) [(6, 194), (5, 24)] rfl (by decide +kernel)
set_option maxRecDepth 100000 in
theorem ck_M_isFound : xok z_M_isFound := xok_of (by decide +kernel) [(6, 190), (5, 29), (6, 170), (1, 13), (6, 169), (6, 191), (6, 193), (0, 83), (1, 13), (5, 28)] rfl (by decide +kernel)
set_option maxRecDepth 100000 in
theorem ck_M_doings : xok z_M_doings := xok_of (by decide +kernel) [(6, 168), (5, 32), (5, 32)] rfl (by decide +kernel)
set_option maxRecDepth 100000 in
theorem ck_M_partOf : xok z_M_partOf := xok_of (by decide +kernel) [(6, 183), (5, 32)] rfl (by decide +kernel)
set_option maxRecDepth 100000 in
theorem ck_M_doAs : xok z_M_doAs := xok_of (by decide +kernel) [(6, 179), (6, 180), (6, 182), (0, 81), (1, 13), (6, 180), (6, 182), (0, 81), (1, 13), (6, 180), (6, 182), (0, 81), (1, 13), (6, 55), (6, 57), (0, 59), (1, 13)] rfl (by decide +kernel)
set_option maxRecDepth 100000 in
theorem ck_M_doingOf : xok z_M_doingOf := xok_of (by decide +kernel) [(6, 175), (5, 31), (6, 165), (6, 167), (0, 78), (1, 13), (6, 165), (6, 167), (0, 78), (1, 13)] rfl (by decide +kernel)
set_option maxRecDepth 100000 in
theorem ck_M_findNext : xok z_M_findNext := xok_of (by decide +kernel) [(6, 164), (5, 29), (5, 25), (5, 31), (6, 165), (6, 167), (0, 78), (1, 13), (5, 25), (5, 24), (6, 170), (1, 13), (6, 169), (5, 33), (6, 51), (6, 53), (0, 58), (1, 13), (5, 34), (5, 33), (5, 31), (5, 30), (6, 172), (6, 174), (0, 79), (1, 13), (5, 34), (6, 176), (6, 178), (0, 80), (1, 13), (5, 34), (4, 238), (5, 34), (4, 238), (5, 34), (6, 185), (1, 13), (6, 184), (5, 34), (6, 187), (6, 189), (0, 82), (1, 13), (5, 25), (6, 195), (6, 197), (0, 84), (1, 13)] rfl (by decide +kernel)
set_option maxRecDepth 100000 in
theorem ck_M_add : xok z_M_add := xok_of (by decide +kernel) [(6, 198), (5, 25), (5, 24), (6, 170), (1, 13), (6, 169), (5, 34), (5, 26), (5, 27), (5, 28), (5, 29), (5, 29), (5, 25)] rfl (by decide +kernel)
set_option maxRecDepth 100000 in
theorem ck_M_beginRuns : xok z_M_beginRuns := xok_of (by decide +kernel) [(6, 160), (5, 24), (4, 231), (4, 233), (0, 31), (1, 13), (5, 24), (5, 25)] rfl (by decide +kernel)
set_option maxRecDepth 100000 in
theorem ck_M_liars : xok z_M_liars := xok_of (by decide +kernel) [(6, 152), (5, 0), (4, 238)] rfl (by decide +kernel)
set_option maxRecDepth 100000 in
theorem ck_M_areRuns : xok z_M_areRuns := xok_of (by decide +kernel) [(6, 148), (5, 127), (1, 13), (5, 126), (5, 127), (1, 13), (5, 126), (6, 149), (6, 151), (0, 74), (1, 13)] rfl (by decide +kernel)
set_option maxRecDepth 100000 in
theorem ck_M_findRuns : xok z_M_findRuns := xok_of (by decide +kernel) [(6, 156), (6, 43), (6, 45), (0, 56), (1, 13), (5, 32), (5, 31), (5, 0), (5, 22), (5, 30), (5, 31), (5, 31), (5, 31), (5, 22), (6, 157), (6, 159), (0, 76), (1, 13), (6, 161), (6, 163), (0, 77), (1, 13)] rfl (by decide +kernel)
set_option maxRecDepth 100000 in
theorem ck_M_firstBad : xok z_M_firstBad := xok_of (by decide +kernel) [(6, 202), (5, 25), (5, 24), (6, 170), (1, 13), (6, 169), (6, 125), (6, 127), (0, 70), (1, 13)] rfl (by decide +kernel)
set_option maxRecDepth 100000 in
theorem ck_M_holds : xok z_M_holds := xok_of (by decide +kernel) [(6, 144), (6, 145), (6, 147), (0, 73), (1, 13), (6, 153), (6, 155), (0, 75), (1, 13), (6, 199), (6, 201), (0, 85), (1, 13)] rfl (by decide +kernel)
set_option maxRecDepth 100000 in
theorem ck_M_states : xok z_M_states := xok_of (by decide +kernel) [(6, 206), (6, 145), (6, 147), (0, 73), (1, 13), (6, 153), (6, 155), (0, 75), (1, 13), (5, 25)] rfl (by decide +kernel)
set_option maxRecDepth 100000 in
theorem ck_M_bad : xok z_M_bad := xok_of (by decide +kernel) [(6, 210), (6, 145), (6, 147), (0, 73), (1, 13), (5, 127), (1, 13), (5, 126), (6, 149), (6, 151), (0, 74), (1, 13), (5, 127), (1, 13), (5, 126), (5, 127), (1, 13), (5, 126), (6, 153), (6, 155), (0, 75), (1, 13), (6, 199), (6, 201), (0, 85), (1, 13), (5, 26), (5, 27), (6, 172), (6, 174), (0, 79), (1, 13), (6, 180), (6, 182), (0, 81), (1, 13)] rfl (by decide +kernel)
set_option maxRecDepth 100000 in
theorem ck_M_told : xok z_M_told := xok_of (by decide +kernel) [(6, 214), (5, 122), (5, 124), (0, 32), (1, 13), (5, 127), (1, 13), (5, 126), (5, 127), (1, 13), (5, 126), (4, 238), (4, 238), (4, 238), (4, 238), (4, 238), (4, 238), (4, 238), (4, 238), (4, 238), (4, 238), (4, 238)] rfl (by decide +kernel)
set_option maxRecDepth 100000 in
theorem ck_M_forget : xok z_M_forget := xok_of (by decide +kernel) [(6, 218), (4, 238), (4, 238), (4, 238)] rfl (by decide +kernel)
set_option maxRecDepth 100000 in
theorem ck_M_canBe : xok z_M_canBe := xok_of (by decide +kernel) [(6, 226), (6, 43), (6, 45), (0, 56), (1, 13), (5, 0), (5, 22), (5, 22), (5, 32), (5, 31), (5, 22), (5, 30), (5, 31), (6, 157), (6, 159), (0, 76), (1, 13), (4, 238), (4, 238), (6, 161), (6, 163), (0, 77), (1, 13), (5, 25)] rfl (by decide +kernel)
set_option maxRecDepth 100000 in
theorem ck_M_suspects : xok z_M_suspects := xok_of (by decide +kernel) [(6, 222), (5, 127), (1, 13), (5, 126), (4, 238), (6, 223), (6, 225), (0, 86), (1, 13), (5, 0), (4, 238), (6, 223), (6, 225), (0, 86), (1, 13)] rfl (by decide +kernel)
set_option maxRecDepth 100000 in
theorem ck_M_isMore : xok z_M_isMore := xok_of (by decide +kernel) [(6, 238), (6, 59), (6, 61), (0, 60), (1, 13), (6, 67), (6, 69), (0, 62), (1, 13), (5, 23), (5, 23), (5, 23), (5, 23)] rfl (by decide +kernel)
set_option maxRecDepth 100000 in
theorem ck_M_isSlip : xok z_M_isSlip := xok_of (by decide +kernel) [(6, 234), (5, 23), (4, 231), (4, 233), (0, 31), (1, 13), (6, 137), (6, 139), (0, 72), (1, 13), (6, 235), (6, 237), (0, 88), (1, 13), (5, 23), (6, 117), (6, 119), (0, 69), (1, 13)] rfl (by decide +kernel)
set_option maxRecDepth 100000 in
theorem ck_M_slips : xok z_M_slips := xok_of (by decide +kernel) [(6, 230), (5, 127), (1, 13), (5, 126), (5, 122), (5, 124), (0, 32), (1, 13), (5, 127), (1, 13), (5, 126), (6, 43), (6, 45), (0, 56), (1, 13), (5, 0), (6, 231), (6, 233), (0, 87), (1, 13)] rfl (by decide +kernel)
set_option maxRecDepth 100000 in
theorem ck_M_watch : xok z_M_watch := xok_of (by decide +kernel) [(7, 6), (6, 137), (6, 139), (0, 72), (1, 13), (5, 35), (5, 23), (6, 67), (6, 69), (0, 62), (1, 13), (5, 35), (5, 23)] rfl (by decide +kernel)
set_option maxRecDepth 100000 in
theorem ck_M_sameSeen : xok z_M_sameSeen := xok_of (by decide +kernel) [(7, 10), (5, 35), (5, 35)] rfl (by decide +kernel)
set_option maxRecDepth 100000 in
theorem ck_M_learns : xok z_M_learns := xok_of (by decide +kernel) [(7, 2), (5, 122), (5, 124), (0, 32), (1, 13), (5, 127), (1, 13), (5, 126), (5, 122), (5, 124), (0, 32), (1, 13), (6, 43), (6, 45), (0, 56), (1, 13), (5, 23), (4, 231), (4, 233), (0, 31), (1, 13), (5, 23), (5, 21), (7, 3), (7, 5), (0, 89), (1, 13), (7, 7), (7, 9), (0, 90), (1, 13)] rfl (by decide +kernel)
set_option maxRecDepth 100000 in
theorem ck_M_image : xok z_M_image := xok_of (by decide +kernel) [(7, 14), (4, 238), (4, 239), (4, 236), (1, 13), (4, 235), (4, 238)] rfl (by decide +kernel)
set_option maxRecDepth 100000 in
theorem ck_M_back : xok z_M_back := xok_of (by decide +kernel) [(7, 18), (4, 239), (4, 238), (4, 236), (1, 13), (4, 235), (4, 238)] rfl (by decide +kernel)
set_option maxRecDepth 100000 in
theorem ck_M_barred : xok z_M_barred := xok_of (by decide +kernel) [(7, 26), (4, 238)] rfl (by decide +kernel)
set_option maxRecDepth 100000 in
theorem ck_M_about : xok z_M_about := xok_of (by decide +kernel) [(7, 22), (5, 0), (4, 238), (4, 238), (4, 238), (4, 238), (4, 238), (4, 238), (4, 238), (5, 3), (7, 23), (7, 25), (0, 91), (1, 13)] rfl (by decide +kernel)
set_option maxRecDepth 100000 in
theorem ck_Law_cell : xok z_Law_cell := xok_of (by decide +kernel) [(4, 223)] rfl (by decide +kernel)
theorem ck_Law_law : xchkM z_Law_law = true := by decide +kernel
set_option maxRecDepth 100000 in
theorem cw_Law_law : ∀ w ∈ z_Law_law.2.2.2.2.2.1.flatMap (fun b => b.1.flatMap (xwds z_Law_law.1.cls)), w ∈ zGood := xhint_mem _ [(1, 19), (1, 20), (1, 1), (4, 222), (1, 0), (4, 221), (1, 22), (1, 1), (1, 21), (4, 224), (4, 225), (1, 13), (4, 222), (1, 0), (4, 221), (4, 227), (1, 13), (4, 226), (2, 206), (2, 207), (2, 208), (1, 1), (5, 118), (5, 119), (5, 120), (1, 13), (2, 217), (2, 218), (2, 219), (1, 1), (5, 129), (5, 130), (5, 131), (1, 13), (2, 221), (2, 222), (2, 223), (1, 1), (5, 133), (5, 134), (5, 135), (1, 13), (2, 228), (2, 229), (2, 230), (1, 1), (5, 137), (5, 138), (5, 139), (1, 13), (2, 232), (2, 233), (2, 234), (1, 1), (5, 141), (5, 142), (5, 143), (1, 13), (3, 0), (3, 1), (3, 2), (1, 1), (5, 149), (5, 150), (5, 151), (1, 13), (3, 4), (3, 5), (3, 6), (1, 1), (5, 153), (5, 154), (5, 155), (1, 13), (3, 176), (3, 177), (3, 178), (1, 1), (6, 27), (6, 28), (6, 29), (1, 13), (3, 180), (3, 181), (3, 182), (1, 1), (6, 31), (6, 32), (6, 33), (1, 13), (3, 184), (3, 185), (3, 186), (1, 1), (6, 35), (6, 36), (6, 37), (1, 13), (3, 192), (3, 193), (3, 194), (1, 1), (6, 39), (6, 40), (6, 41), (1, 13), (4, 11), (4, 12), (4, 13), (1, 1), (6, 109), (6, 110), (6, 111), (1, 13), (4, 19), (4, 20), (4, 21), (1, 1), (6, 113), (6, 114), (6, 115), (1, 13), (4, 28), (4, 29), (4, 30), (1, 1), (6, 121), (6, 122), (6, 123), (1, 13), (4, 37), (4, 38), (4, 39), (1, 1), (6, 129), (6, 130), (6, 131), (1, 13), (4, 52), (4, 53), (4, 54), (1, 1), (6, 141), (6, 142), (6, 143), (1, 13), (4, 118), (4, 119), (4, 120), (1, 1), (6, 203), (6, 204), (6, 205), (1, 13), (4, 122), (4, 123), (4, 124), (1, 1), (6, 207), (6, 208), (6, 209), (1, 13), (4, 130), (4, 131), (4, 132), (1, 1), (6, 211), (6, 212), (6, 213), (1, 13), (4, 138), (4, 139), (4, 140), (1, 1), (6, 215), (6, 216), (6, 217), (1, 13), (4, 142), (4, 143), (4, 144), (1, 1), (6, 219), (6, 220), (6, 221), (1, 13), (4, 159), (4, 160), (4, 161), (1, 1), (6, 227), (6, 228), (6, 229), (1, 13), (4, 175), (4, 176), (4, 177), (1, 1), (6, 239), (7, 0), (7, 1), (1, 13), (4, 190), (4, 191), (4, 192), (1, 1), (7, 11), (7, 12), (7, 13), (1, 13), (4, 209), (4, 210), (4, 211), (1, 1), (7, 15), (7, 16), (7, 17), (1, 13), (4, 213), (4, 214), (4, 215), (1, 1), (7, 19), (7, 20), (7, 21), (1, 13)] rfl (by decide +kernel)
theorem xok_mem : ∀ m ∈ xP, xok m := by
  unfold xP
  exact List.forall_mem_cons.mpr ⟨ck_Elders_init, List.forall_mem_cons.mpr ⟨ck_Elders_copyFrom, List.forall_mem_cons.mpr ⟨ck_Elders_countLiars, List.forall_mem_cons.mpr ⟨ck_Elders_countBarred, List.forall_mem_cons.mpr ⟨ck_Elders_makeLiarsSound, List.forall_mem_cons.mpr ⟨ck_Elders_through, List.forall_mem_cons.mpr ⟨ck_Found_init, List.forall_mem_cons.mpr ⟨ck_Found_clear, List.forall_mem_cons.mpr ⟨ck_Found_put, List.forall_mem_cons.mpr ⟨ck_Found_show, List.forall_mem_cons.mpr ⟨ck_Found_pack, List.forall_mem_cons.mpr ⟨ck_Found_isRowAt, List.forall_mem_cons.mpr ⟨ck_Hall_init, List.forall_mem_cons.mpr ⟨ck_Hall_leftOf, List.forall_mem_cons.mpr ⟨ck_Hall_rightOf, List.forall_mem_cons.mpr ⟨ck_Hall_pass, List.forall_mem_cons.mpr ⟨ck_Hall_decide, List.forall_mem_cons.mpr ⟨ck_Hall_decideSound, List.forall_mem_cons.mpr ⟨ck_Hall_carry, List.forall_mem_cons.mpr ⟨ck_Hall_wordOf, List.forall_mem_cons.mpr ⟨ck_Hall_isAgreed, List.forall_mem_cons.mpr ⟨ck_Hall_isRuled, List.forall_mem_cons.mpr ⟨ck_Hall_work, List.forall_mem_cons.mpr ⟨ck_Hall_join, List.forall_mem_cons.mpr ⟨ck_Heard_init, List.forall_mem_cons.mpr ⟨ck_Heard_add, List.forall_mem_cons.mpr ⟨ck_Heard_isLike, List.forall_mem_cons.mpr ⟨ck_Heard_copyFrom, List.forall_mem_cons.mpr ⟨ck_Moment_init, List.forall_mem_cons.mpr ⟨ck_Moment_begin, List.forall_mem_cons.mpr ⟨ck_Moment_copyFrom, List.forall_mem_cons.mpr ⟨ck_Moment_countNotes, List.forall_mem_cons.mpr ⟨ck_Past_init, List.forall_mem_cons.mpr ⟨ck_Past_push, List.forall_mem_cons.mpr ⟨ck_Past_pop, List.forall_mem_cons.mpr ⟨ck_Past_copyFrom, List.forall_mem_cons.mpr ⟨ck_Runs_init, List.forall_mem_cons.mpr ⟨ck_Runs_goThrough, List.forall_mem_cons.mpr ⟨ck_Runs_seatLiars, List.forall_mem_cons.mpr ⟨ck_Runs_goOneHour, List.forall_mem_cons.mpr ⟨ck_Runs_setLiars, List.forall_mem_cons.mpr ⟨ck_Runs_doneBy, List.forall_mem_cons.mpr ⟨ck_Runs_firstBad, List.forall_mem_cons.mpr ⟨ck_Runs_doneOnTheWay, List.forall_mem_cons.mpr ⟨ck_Tape_init, List.forall_mem_cons.mpr ⟨ck_Tape_append, List.forall_mem_cons.mpr ⟨ck_Tape_read, List.forall_mem_cons.mpr ⟨ck_Tape_readClause, List.forall_mem_cons.mpr ⟨ck_Tape_mayBegin, List.forall_mem_cons.mpr ⟨ck_Tape_readEither, List.forall_mem_cons.mpr ⟨ck_Tape_readBoth, List.forall_mem_cons.mpr ⟨ck_Tape_readAsk, List.forall_mem_cons.mpr ⟨ck_Tape_readSum, List.forall_mem_cons.mpr ⟨ck_Tape_readProduct, List.forall_mem_cons.mpr ⟨ck_Tape_readOne, List.forall_mem_cons.mpr ⟨ck_Tape_readChoice, List.forall_mem_cons.mpr ⟨ck_Tape_pair, List.forall_mem_cons.mpr ⟨ck_Tape_isPassed, List.forall_mem_cons.mpr ⟨ck_Tape_wrong, List.forall_mem_cons.mpr ⟨ck_Tape_next, List.forall_mem_cons.mpr ⟨ck_Tape_takeNumber, List.forall_mem_cons.mpr ⟨ck_Tape_takeWord, List.forall_mem_cons.mpr ⟨ck_Tape_isSpelled, List.forall_mem_cons.mpr ⟨ck_Tape_takeSign, List.forall_mem_cons.mpr ⟨ck_Tape_isDigit, List.forall_mem_cons.mpr ⟨ck_Tape_isLetter, List.forall_mem_cons.mpr ⟨ck_Tape_spelling, List.forall_mem_cons.mpr ⟨ck_Text_init, List.forall_mem_cons.mpr ⟨ck_Text_clear, List.forall_mem_cons.mpr ⟨ck_Text_add, List.forall_mem_cons.mpr ⟨ck_Text_skipFrom, List.forall_mem_cons.mpr ⟨ck_Text_addClause, List.forall_mem_cons.mpr ⟨ck_Text_clauseOf, List.forall_mem_cons.mpr ⟨ck_Tries_init, List.forall_mem_cons.mpr ⟨ck_Tries_agreement, List.forall_mem_cons.mpr ⟨ck_Tries_slipsTo, List.forall_mem_cons.mpr ⟨ck_Tries_slip, List.forall_mem_cons.mpr ⟨ck_Tries_unlikeRows, List.forall_mem_cons.mpr ⟨ck_Tries_watch, List.forall_mem_cons.mpr ⟨ck_Tries_isSameRow, List.forall_mem_cons.mpr ⟨ck_Whole_init, List.forall_mem_cons.mpr ⟨ck_Whole_copyFrom, List.forall_mem_cons.mpr ⟨ck_C_init, List.forall_mem_cons.mpr ⟨ck_C_elder, List.forall_mem_cons.mpr ⟨ck_C_stuck, List.forall_mem_cons.mpr ⟨ck_C_lies, List.forall_mem_cons.mpr ⟨ck_C_bar, List.forall_mem_cons.mpr ⟨ck_C_feed, List.forall_mem_cons.mpr ⟨ck_C_end, List.forall_mem_cons.mpr ⟨ck_C_text, List.forall_mem_cons.mpr ⟨ck_C_fault, List.forall_mem_cons.mpr ⟨ck_C_by, List.forall_mem_cons.mpr ⟨ck_C_start, List.forall_mem_cons.mpr ⟨ck_C_hours, List.forall_mem_cons.mpr ⟨ck_C_undo, List.forall_mem_cons.mpr ⟨ck_C_of, List.forall_mem_cons.mpr ⟨ck_C_agree, List.forall_mem_cons.mpr ⟨ck_C_agrees, List.forall_mem_cons.mpr ⟨ck_C_holds, List.forall_mem_cons.mpr ⟨ck_C_states, List.forall_mem_cons.mpr ⟨ck_C_bad, List.forall_mem_cons.mpr ⟨ck_C_told, List.forall_mem_cons.mpr ⟨ck_C_forget, List.forall_mem_cons.mpr ⟨ck_C_suspects, List.forall_mem_cons.mpr ⟨ck_C_slips, List.forall_mem_cons.mpr ⟨ck_C_learns, List.forall_mem_cons.mpr ⟨ck_C_image, List.forall_mem_cons.mpr ⟨ck_C_back, List.forall_mem_cons.mpr ⟨ck_C_about, List.forall_mem_cons.mpr ⟨ck_C_isRoom, List.forall_mem_cons.mpr ⟨ck_C_isRunAsked, List.forall_mem_cons.mpr ⟨ck_C_canBeHeard, List.forall_mem_cons.mpr ⟨ck_C_isNoteOrNone, List.forall_mem_cons.mpr ⟨ck_C_isWithin, List.forall_mem_cons.mpr ⟨ck_C_bounded, List.forall_mem_cons.mpr ⟨ck_M_init, List.forall_mem_cons.mpr ⟨ck_M_copy, List.forall_mem_cons.mpr ⟨ck_M_isIn, List.forall_mem_cons.mpr ⟨ck_M_held, List.forall_mem_cons.mpr ⟨ck_M_isRoom, List.forall_mem_cons.mpr ⟨ck_M_leftOf, List.forall_mem_cons.mpr ⟨ck_M_rightOf, List.forall_mem_cons.mpr ⟨ck_M_begin, List.forall_mem_cons.mpr ⟨ck_M_elder, List.forall_mem_cons.mpr ⟨ck_M_stuck, List.forall_mem_cons.mpr ⟨ck_M_lies, List.forall_mem_cons.mpr ⟨ck_M_bar, List.forall_mem_cons.mpr ⟨ck_M_four, List.forall_mem_cons.mpr ⟨ck_M_feed, List.forall_mem_cons.mpr ⟨ck_M_end, List.forall_mem_cons.mpr ⟨ck_M_byteAt, List.forall_mem_cons.mpr ⟨ck_M_isLetter, List.forall_mem_cons.mpr ⟨ck_M_isDigit, List.forall_mem_cons.mpr ⟨ck_M_nextToken, List.forall_mem_cons.mpr ⟨ck_M_w3, List.forall_mem_cons.mpr ⟨ck_M_w5, List.forall_mem_cons.mpr ⟨ck_M_w4, List.forall_mem_cons.mpr ⟨ck_M_isWord, List.forall_mem_cons.mpr ⟨ck_M_emit, List.forall_mem_cons.mpr ⟨ck_M_push, List.forall_mem_cons.mpr ⟨ck_M_rank, List.forall_mem_cons.mpr ⟨ck_M_settle, List.forall_mem_cons.mpr ⟨ck_M_whole, List.forall_mem_cons.mpr ⟨ck_M_marker, List.forall_mem_cons.mpr ⟨ck_M_kindOpen, List.forall_mem_cons.mpr ⟨ck_M_isCompared, List.forall_mem_cons.mpr ⟨ck_M_isAskAhead, List.forall_mem_cons.mpr ⟨ck_M_opensBy, List.forall_mem_cons.mpr ⟨ck_M_beginOne, List.forall_mem_cons.mpr ⟨ck_M_compareOf, List.forall_mem_cons.mpr ⟨ck_M_betweenOf, List.forall_mem_cons.mpr ⟨ck_M_behindOne, List.forall_mem_cons.mpr ⟨ck_M_parsed, List.forall_mem_cons.mpr ⟨ck_M_isGotRight, List.forall_mem_cons.mpr ⟨ck_M_nameOf, List.forall_mem_cons.mpr ⟨ck_M_sortOf, List.forall_mem_cons.mpr ⟨ck_M_clause, List.forall_mem_cons.mpr ⟨ck_M_readText, List.forall_mem_cons.mpr ⟨ck_M_text, List.forall_mem_cons.mpr ⟨ck_M_fault, List.forall_mem_cons.mpr ⟨ck_M_by, List.forall_mem_cons.mpr ⟨ck_M_clip, List.forall_mem_cons.mpr ⟨ck_M_two, List.forall_mem_cons.mpr ⟨ck_M_isAsked, List.forall_mem_cons.mpr ⟨ck_M_work, List.forall_mem_cons.mpr ⟨ck_M_clauses, List.forall_mem_cons.mpr ⟨ck_M_sortAt, List.forall_mem_cons.mpr ⟨ck_M_sumOf, List.forall_mem_cons.mpr ⟨ck_M_pulls, List.forall_mem_cons.mpr ⟨ck_M_asTold, List.forall_mem_cons.mpr ⟨ck_M_name, List.forall_mem_cons.mpr ⟨ck_M_says, List.forall_mem_cons.mpr ⟨ck_M_areOne, List.forall_mem_cons.mpr ⟨ck_M_put, List.forall_mem_cons.mpr ⟨ck_M_write, List.forall_mem_cons.mpr ⟨ck_M_go, List.forall_mem_cons.mpr ⟨ck_M_goOn, List.forall_mem_cons.mpr ⟨ck_M_start, List.forall_mem_cons.mpr ⟨ck_M_keepHour, List.forall_mem_cons.mpr ⟨ck_M_hours, List.forall_mem_cons.mpr ⟨ck_M_undo, List.forall_mem_cons.mpr ⟨ck_M_of, List.forall_mem_cons.mpr ⟨ck_M_agree, List.forall_mem_cons.mpr ⟨ck_M_notesIn, List.forall_mem_cons.mpr ⟨ck_M_agrees, List.forall_mem_cons.mpr ⟨ck_M_stateAt, List.forall_mem_cons.mpr ⟨ck_M_sumOfRow, List.forall_mem_cons.mpr ⟨ck_M_isLike, List.forall_mem_cons.mpr ⟨ck_M_isFound, List.forall_mem_cons.mpr ⟨ck_M_doings, List.forall_mem_cons.mpr ⟨ck_M_partOf, List.forall_mem_cons.mpr ⟨ck_M_doAs, List.forall_mem_cons.mpr ⟨ck_M_doingOf, List.forall_mem_cons.mpr ⟨ck_M_findNext, List.forall_mem_cons.mpr ⟨ck_M_add, List.forall_mem_cons.mpr ⟨ck_M_beginRuns, List.forall_mem_cons.mpr ⟨ck_M_liars, List.forall_mem_cons.mpr ⟨ck_M_areRuns, List.forall_mem_cons.mpr ⟨ck_M_findRuns, List.forall_mem_cons.mpr ⟨ck_M_firstBad, List.forall_mem_cons.mpr ⟨ck_M_holds, List.forall_mem_cons.mpr ⟨ck_M_states, List.forall_mem_cons.mpr ⟨ck_M_bad, List.forall_mem_cons.mpr ⟨ck_M_told, List.forall_mem_cons.mpr ⟨ck_M_forget, List.forall_mem_cons.mpr ⟨ck_M_canBe, List.forall_mem_cons.mpr ⟨ck_M_suspects, List.forall_mem_cons.mpr ⟨ck_M_isMore, List.forall_mem_cons.mpr ⟨ck_M_isSlip, List.forall_mem_cons.mpr ⟨ck_M_slips, List.forall_mem_cons.mpr ⟨ck_M_watch, List.forall_mem_cons.mpr ⟨ck_M_sameSeen, List.forall_mem_cons.mpr ⟨ck_M_learns, List.forall_mem_cons.mpr ⟨ck_M_image, List.forall_mem_cons.mpr ⟨ck_M_back, List.forall_mem_cons.mpr ⟨ck_M_barred, List.forall_mem_cons.mpr ⟨ck_M_about, List.forall_mem_cons.mpr ⟨ck_Law_cell, fun _ h => absurd h List.not_mem_nil⟩⟩⟩⟩⟩⟩⟩⟩⟩⟩⟩⟩⟩⟩⟩⟩⟩⟩⟩⟩⟩⟩⟩⟩⟩⟩⟩⟩⟩⟩⟩⟩⟩⟩⟩⟩⟩⟩⟩⟩⟩⟩⟩⟩⟩⟩⟩⟩⟩⟩⟩⟩⟩⟩⟩⟩⟩⟩⟩⟩⟩⟩⟩⟩⟩⟩⟩⟩⟩⟩⟩⟩⟩⟩⟩⟩⟩⟩⟩⟩⟩⟩⟩⟩⟩⟩⟩⟩⟩⟩⟩⟩⟩⟩⟩⟩⟩⟩⟩⟩⟩⟩⟩⟩⟩⟩⟩⟩⟩⟩⟩⟩⟩⟩⟩⟩⟩⟩⟩⟩⟩⟩⟩⟩⟩⟩⟩⟩⟩⟩⟩⟩⟩⟩⟩⟩⟩⟩⟩⟩⟩⟩⟩⟩⟩⟩⟩⟩⟩⟩⟩⟩⟩⟩⟩⟩⟩⟩⟩⟩⟩⟩⟩⟩⟩⟩⟩⟩⟩⟩⟩⟩⟩⟩⟩⟩⟩⟩⟩⟩⟩⟩⟩⟩⟩⟩⟩⟩⟩⟩⟩⟩⟩⟩⟩⟩⟩⟩⟩⟩⟩⟩⟩⟩⟩⟩⟩⟩⟩⟩⟩⟩⟩⟩⟩⟩⟩⟩
theorem xok_all (y : Nat) (my : xMeth) (h : xP[y]? = some my) : xok my := xok_mem my (List.mem_of_getElem? h)
theorem zL0 : ∀ w ∈ u_ws zC0 zT0 8, w ∈ zGood := xhint_mem _ [(2, 78), (2, 80), (2, 82), (2, 84), (2, 86), (2, 88), (2, 90), (2, 92)] rfl (by decide +kernel)
theorem zL1 : ∀ w ∈ u_ws zC1 zT1 6, w ∈ zGood := xhint_mem _ [(1, 233), (1, 235), (1, 237), (1, 239), (2, 1), (2, 3)] rfl (by decide +kernel)
theorem zL2 : ∀ w ∈ u_ws zC2 zT2 7, w ∈ zGood := xhint_mem _ [(1, 130), (1, 132), (1, 134), (1, 136), (1, 138), (1, 140), (1, 142)] rfl (by decide +kernel)
theorem zL3 : ∀ w ∈ u_ws zC3 zT3 4, w ∈ zGood := xhint_mem _ [(2, 107), (2, 109), (2, 111), (2, 113)] rfl (by decide +kernel)
theorem zL4 : ∀ w ∈ u_ws zC4 zT4 5, w ∈ zGood := xhint_mem _ [(1, 185), (1, 187), (1, 189), (1, 191), (1, 193)] rfl (by decide +kernel)
theorem zL5 : ∀ w ∈ u_ws zC5 zT5 3, w ∈ zGood := xhint_mem _ [(2, 139), (2, 141), (2, 143)] rfl (by decide +kernel)
theorem zL6 : ∀ w ∈ u_ws zC6 zT6 12, w ∈ zGood := xhint_mem _ [(2, 21), (2, 23), (2, 25), (2, 27), (2, 29), (2, 31), (2, 33), (2, 35), (2, 37), (2, 39), (2, 41), (2, 43)] rfl (by decide +kernel)
theorem zL7 : ∀ w ∈ u_ws zC7 zT7 9, w ∈ zGood := xhint_mem _ [(1, 94), (1, 96), (1, 98), (1, 100), (1, 102), (1, 104), (1, 106), (1, 108), (1, 110)] rfl (by decide +kernel)
theorem zL8 : ∀ w ∈ u_ws zC8 zT8 9, w ∈ zGood := xhint_mem _ [(1, 56), (1, 58), (1, 60), (1, 62), (1, 64), (1, 66), (1, 68), (1, 70), (1, 72)] rfl (by decide +kernel)
theorem zL9 : ∀ w ∈ u_ws zC9 zT9 5, w ∈ zGood := xhint_mem _ [(1, 201), (1, 203), (1, 205), (1, 207), (1, 209)] rfl (by decide +kernel)
theorem zL10 : ∀ w ∈ u_ws zC10 zT10 5, w ∈ zGood := xhint_mem _ [(2, 158), (2, 160), (2, 162), (2, 164), (2, 166)] rfl (by decide +kernel)
theorem zL11 : ∀ w ∈ u_ws zC11 zT11 12, w ∈ zGood := xhint_mem _ [(2, 181), (2, 183), (2, 185), (2, 187), (2, 189), (2, 191), (2, 193), (2, 195), (2, 197), (2, 199), (2, 201), (2, 203)] rfl (by decide +kernel)
theorem zL12 : ∀ w ∈ u_ws zC12 zT12 40, w ∈ zGood := xhint_mem _ [(5, 36), (5, 38), (5, 40), (5, 42), (5, 44), (5, 46), (5, 48), (5, 50), (5, 52), (5, 54), (5, 56), (5, 58), (5, 60), (5, 62), (5, 64), (5, 66), (5, 68), (5, 70), (5, 72), (5, 74), (5, 76), (5, 78), (5, 80), (5, 82), (5, 84), (5, 86), (5, 88), (5, 90), (5, 92), (5, 94), (5, 96), (5, 98), (5, 100), (5, 102), (5, 104), (5, 106), (5, 108), (5, 110), (5, 112), (5, 114)] rfl (by decide +kernel)
