/-! printed by gen.py: each method is as it is printed, and where its words stand -/
set_option maxRecDepth 100000 in
theorem ck_Elders_init : xok z_Elders_init := xok_of (by decide +kernel) [(2, 50), (2, 51), (1, 25), (1, 26), (1, 75), (2, 52), (1, 75), (2, 56), (1, 75), (2, 61), (1, 75), (2, 64), (1, 145), (2, 67), (1, 145), (2, 70), (1, 145), (2, 73), (2, 75), (2, 61), (2, 64)] rfl (by decide +kernel)
set_option maxRecDepth 100000 in
theorem ck_Elders_copyFrom : xok z_Elders_copyFrom := xok_of (by decide +kernel) [(4, 149), (2, 52), (2, 52), (2, 52), (4, 150), (3, 206), (3, 205), (1, 18), (2, 56), (2, 56), (2, 56), (4, 150), (3, 206), (3, 205), (1, 18), (2, 61), (2, 61), (2, 61), (4, 150), (3, 206), (3, 205), (1, 18), (2, 64), (2, 64), (2, 64), (4, 150), (3, 206), (3, 205), (1, 18), (2, 67), (2, 67), (2, 67), (4, 150), (3, 206), (3, 205), (1, 18), (2, 70), (2, 70), (2, 70), (4, 150), (3, 206), (3, 205), (1, 18), (2, 73), (2, 73), (2, 73), (4, 150), (3, 206), (3, 205), (1, 18), (2, 75), (2, 75)] rfl (by decide +kernel)
set_option maxRecDepth 100000 in
theorem ck_Elders_countLiars : xok z_Elders_countLiars := xok_of (by decide +kernel) [(4, 63), (2, 52)] rfl (by decide +kernel)
set_option maxRecDepth 100000 in
theorem ck_Elders_countBarred : xok z_Elders_countBarred := xok_of (by decide +kernel) [(4, 220), (2, 73)] rfl (by decide +kernel)
set_option maxRecDepth 100000 in
theorem ck_Elders_makeLiarsSound : xok z_Elders_makeLiarsSound := xok_of (by decide +kernel) [(4, 154), (2, 52), (2, 52), (2, 52), (2, 52)] rfl (by decide +kernel)
set_option maxRecDepth 100000 in
theorem ck_Elders_through : xok z_Elders_through := xok_of (by decide +kernel) [(4, 6), (2, 73)] rfl (by decide +kernel)
set_option maxRecDepth 100000 in
theorem ck_Found_init : xok z_Found_init := xok_of (by decide +kernel) [(1, 223), (1, 224), (1, 25), (1, 26), (1, 75), (1, 228), (1, 75), (1, 229), (1, 225), (1, 225), (1, 75), (1, 226), (1, 225), (1, 75), (1, 227)] rfl (by decide +kernel)
set_option maxRecDepth 100000 in
theorem ck_Found_clear : xok z_Found_clear := xok_of (by decide +kernel) [(4, 76), (1, 230), (1, 228), (1, 229), (1, 230)] rfl (by decide +kernel)
set_option maxRecDepth 100000 in
theorem ck_Found_put : xok z_Found_put := xok_of (by decide +kernel) [(4, 80), (4, 81), (4, 83), (0, 23), (1, 8), (1, 228), (1, 228), (4, 86), (4, 88), (0, 24), (1, 8), (1, 230), (1, 227), (1, 226), (1, 230), (1, 225), (1, 225), (4, 90), (3, 206), (3, 205), (1, 18), (1, 229), (1, 230), (1, 230), (1, 230), (1, 228), (1, 230)] rfl (by decide +kernel)
set_option maxRecDepth 100000 in
theorem ck_Found_show : xok z_Found_show := xok_of (by decide +kernel) [(4, 98), (1, 225), (1, 225), (1, 226), (1, 172), (1, 166), (1, 161), (1, 226), (1, 225), (1, 177)] rfl (by decide +kernel)
set_option maxRecDepth 100000 in
theorem ck_Found_pack : xok z_Found_pack := xok_of (by decide +kernel) [(4, 84), (1, 177), (1, 225), (1, 161), (1, 166), (1, 227), (1, 172), (1, 227), (4, 85), (1, 227), (1, 225), (1, 177)] rfl (by decide +kernel)
set_option maxRecDepth 100000 in
theorem ck_Found_isRowAt : xok z_Found_isRowAt := xok_of (by decide +kernel) [(4, 89), (1, 225), (1, 225), (1, 226), (1, 227)] rfl (by decide +kernel)
set_option maxRecDepth 100000 in
theorem ck_Hall_init : xok z_Hall_init := xok_of (by decide +kernel) [(1, 117), (1, 118), (1, 25), (1, 26), (1, 75), (1, 129), (1, 119), (1, 128), (1, 75), (1, 121), (1, 75), (1, 122), (1, 75), (1, 124), (1, 145), (1, 126)] rfl (by decide +kernel)
set_option maxRecDepth 100000 in
theorem ck_Hall_leftOf : xok z_Hall_leftOf := xok_of (by decide +kernel) [(4, 10), (1, 119)] rfl (by decide +kernel)
set_option maxRecDepth 100000 in
theorem ck_Hall_rightOf : xok z_Hall_rightOf := xok_of (by decide +kernel) [(4, 2), (1, 119)] rfl (by decide +kernel)
set_option maxRecDepth 100000 in
theorem ck_Hall_pass : xok z_Hall_pass := xok_of (by decide +kernel) [(3, 210), (3, 211), (3, 212), (3, 213), (1, 4), (1, 182), (3, 235), (3, 236), (3, 237), (1, 4)] rfl (by decide +kernel)
set_option maxRecDepth 100000 in
theorem ck_Hall_decide : xok z_Hall_decide := xok_of (by decide +kernel) [(3, 214), (1, 119), (2, 55), (1, 121), (1, 162), (1, 122), (2, 63), (1, 124), (2, 66), (1, 126), (2, 69), (2, 55), (3, 215), (3, 217), (0, 18), (1, 4), (3, 219), (3, 221), (0, 19), (1, 4)] rfl (by decide +kernel)
set_option maxRecDepth 100000 in
theorem ck_Hall_decideSound : xok z_Hall_decideSound := xok_of (by decide +kernel) [(3, 222), (1, 128), (2, 76), (1, 55), (1, 46), (3, 223), (3, 225), (0, 20), (1, 4), (1, 121), (1, 28), (1, 1), (1, 122), (1, 28), (1, 1), (1, 124), (1, 28), (1, 1), (1, 126), (1, 126)] rfl (by decide +kernel)
set_option maxRecDepth 100000 in
theorem ck_Hall_carry : xok z_Hall_carry := xok_of (by decide +kernel) [(3, 238), (1, 119), (1, 162), (1, 121), (1, 168), (3, 239), (4, 0), (4, 1), (1, 4), (1, 124), (4, 3), (4, 4), (4, 5), (1, 9), (1, 174), (4, 7), (4, 8), (4, 9), (1, 4), (1, 122), (4, 3), (4, 4), (4, 5), (1, 9), (1, 126), (2, 72), (1, 178), (1, 182)] rfl (by decide +kernel)
set_option maxRecDepth 100000 in
theorem ck_Hall_wordOf : xok z_Hall_wordOf := xok_of (by decide +kernel) [(4, 26), (3, 215), (3, 217), (0, 18), (1, 4), (1, 128), (2, 76), (4, 27), (3, 124), (3, 125), (1, 2), (1, 162), (1, 128), (2, 76), (3, 223), (3, 225), (0, 20), (1, 4), (1, 28), (1, 1)] rfl (by decide +kernel)
set_option maxRecDepth 100000 in
theorem ck_Hall_isAgreed : xok z_Hall_isAgreed := xok_of (by decide +kernel) [(4, 35), (1, 119), (2, 55), (4, 36), (4, 24), (4, 25), (1, 4)] rfl (by decide +kernel)
set_option maxRecDepth 100000 in
theorem ck_Hall_isRuled : xok z_Hall_isRuled := xok_of (by decide +kernel) [(3, 218), (2, 76), (2, 76)] rfl (by decide +kernel)
set_option maxRecDepth 100000 in
theorem ck_Hall_work : xok z_Hall_work := xok_of (by decide +kernel) [(3, 226), (1, 50), (1, 48), (1, 38), (1, 40), (1, 42), (1, 129), (1, 129), (1, 129), (1, 162), (1, 129), (1, 168), (1, 129), (1, 174), (1, 129), (1, 178), (1, 129), (1, 182), (1, 129), (2, 60), (1, 129), (1, 119), (1, 129), (1, 129), (1, 129), (1, 129), (1, 129), (1, 129), (1, 129), (1, 129), (1, 44), (1, 129), (1, 129), (1, 129), (3, 228), (1, 4), (3, 227), (1, 129)] rfl (by decide +kernel)
set_option maxRecDepth 100000 in
theorem ck_Hall_join : xok z_Hall_join := xok_of (by decide +kernel) [(3, 229), (3, 230), (3, 231), (3, 232), (3, 233)] rfl (by decide +kernel)
set_option maxRecDepth 100000 in
theorem ck_Heard_init : xok z_Heard_init := xok_of (by decide +kernel) [(2, 99), (2, 100), (1, 25), (1, 26), (1, 75), (2, 101), (1, 75), (2, 102)] rfl (by decide +kernel)
set_option maxRecDepth 100000 in
theorem ck_Heard_add : xok z_Heard_add := xok_of (by decide +kernel) [(4, 137), (2, 103), (2, 105), (2, 105), (2, 103), (2, 101), (2, 105), (2, 102), (2, 105), (2, 105), (2, 105)] rfl (by decide +kernel)
set_option maxRecDepth 100000 in
theorem ck_Heard_isLike : xok z_Heard_isLike := xok_of (by decide +kernel) [(4, 112), (1, 181), (2, 105), (1, 165), (2, 103), (2, 101), (1, 171), (2, 103), (2, 102)] rfl (by decide +kernel)
set_option maxRecDepth 100000 in
theorem ck_Heard_copyFrom : xok z_Heard_copyFrom := xok_of (by decide +kernel) [(4, 207), (2, 101), (2, 101), (4, 208), (3, 206), (3, 205), (1, 18), (2, 102), (2, 102), (4, 208), (3, 206), (3, 205), (1, 18), (2, 103), (2, 103), (2, 105), (2, 105)] rfl (by decide +kernel)
set_option maxRecDepth 100000 in
theorem ck_Moment_init : xok z_Moment_init := xok_of (by decide +kernel) [(1, 158), (1, 159), (1, 25), (1, 26), (1, 75), (1, 160), (1, 75), (1, 164), (1, 75), (1, 170), (1, 164), (1, 170)] rfl (by decide +kernel)
set_option maxRecDepth 100000 in
theorem ck_Moment_begin : xok z_Moment_begin := xok_of (by decide +kernel) [(3, 191), (1, 160), (1, 160), (2, 57), (1, 164), (1, 170), (1, 176), (1, 180)] rfl (by decide +kernel)
set_option maxRecDepth 100000 in
theorem ck_Moment_copyFrom : xok z_Moment_copyFrom := xok_of (by decide +kernel) [(3, 203), (1, 160), (1, 160), (1, 160), (3, 204), (3, 206), (3, 205), (1, 18), (1, 164), (1, 164), (1, 164), (3, 204), (3, 206), (3, 205), (1, 18), (1, 170), (1, 170), (1, 170), (3, 204), (3, 206), (3, 205), (1, 18), (1, 176), (1, 176), (1, 180), (1, 180)] rfl (by decide +kernel)
set_option maxRecDepth 100000 in
theorem ck_Moment_countNotes : xok z_Moment_countNotes := xok_of (by decide +kernel) [(4, 49), (1, 160), (1, 164), (1, 170)] rfl (by decide +kernel)
set_option maxRecDepth 100000 in
theorem ck_Past_init : xok z_Past_init := xok_of (by decide +kernel) [(2, 130), (2, 131), (1, 25), (1, 26), (2, 132), (2, 135), (2, 135), (2, 132), (1, 155), (1, 6), (1, 157), (1, 6), (2, 134)] rfl (by decide +kernel)
set_option maxRecDepth 100000 in
theorem ck_Past_push : xok z_Past_push := xok_of (by decide +kernel) [(3, 199), (2, 135), (2, 136), (3, 200), (3, 201), (3, 202), (1, 6), (2, 136), (2, 136), (2, 136), (2, 137), (2, 137), (2, 137)] rfl (by decide +kernel)
set_option maxRecDepth 100000 in
theorem ck_Past_pop : xok z_Past_pop := xok_of (by decide +kernel) [(4, 18), (2, 137), (2, 136), (2, 136), (2, 136), (2, 137), (2, 137), (2, 135), (2, 136), (3, 200), (3, 201), (3, 202), (1, 6)] rfl (by decide +kernel)
set_option maxRecDepth 100000 in
theorem ck_Past_copyFrom : xok z_Past_copyFrom := xok_of (by decide +kernel) [(4, 203), (2, 135), (2, 135), (3, 200), (3, 201), (3, 202), (1, 6), (2, 136), (2, 136), (2, 137), (2, 137)] rfl (by decide +kernel)
set_option maxRecDepth 100000 in
theorem ck_Runs_init : xok z_Runs_init := xok_of (by decide +kernel) [(1, 216), (1, 217), (1, 25), (1, 26), (1, 218), (1, 75), (2, 12), (1, 218), (1, 75), (2, 13), (1, 75), (2, 17), (2, 14), (1, 219), (1, 220), (1, 8), (1, 222), (1, 8), (1, 221), (2, 8), (1, 219), (1, 220), (1, 8), (1, 222), (1, 8), (1, 221), (2, 10), (1, 219), (1, 220), (1, 8), (1, 222), (1, 8), (1, 221), (2, 11), (2, 6), (1, 155), (1, 6), (1, 157), (1, 6), (2, 7), (2, 15), (2, 6), (1, 155), (1, 6), (1, 157), (1, 6), (2, 7), (2, 16), (2, 19)] rfl (by decide +kernel)
set_option maxRecDepth 100000 in
theorem ck_Runs_goThrough : xok z_Runs_goThrough := xok_of (by decide +kernel) [(4, 67), (4, 68), (4, 70), (0, 22), (1, 7), (2, 15), (4, 72), (3, 189), (3, 190), (1, 6), (2, 8), (4, 73), (4, 74), (4, 75), (1, 8), (2, 8), (2, 15), (4, 77), (4, 78), (4, 79), (1, 8), (2, 10), (2, 8), (2, 10), (2, 8), (4, 91), (4, 93), (0, 25), (1, 7)] rfl (by decide +kernel)
set_option maxRecDepth 100000 in
theorem ck_Runs_seatLiars : xok z_Runs_seatLiars := xok_of (by decide +kernel) [(4, 71), (2, 18), (2, 19), (2, 20), (2, 14), (1, 120), (2, 18), (2, 54), (2, 17), (2, 18), (2, 18), (2, 18), (2, 20), (2, 19), (2, 19), (2, 20)] rfl (by decide +kernel)
set_option maxRecDepth 100000 in
theorem ck_Runs_goOneHour : xok z_Runs_goOneHour := xok_of (by decide +kernel) [(4, 94), (2, 8), (4, 73), (4, 74), (4, 75), (1, 8), (2, 11), (4, 73), (4, 74), (4, 75), (1, 8), (2, 10), (1, 231), (2, 10), (2, 15), (4, 95), (4, 96), (4, 97), (1, 8), (2, 15), (1, 183), (2, 14), (2, 15), (4, 99), (3, 212), (3, 213), (1, 4), (4, 100), (4, 102), (0, 26), (1, 7), (2, 14), (2, 16), (4, 108), (3, 236), (3, 237), (1, 4), (2, 11), (2, 16), (4, 77), (4, 78), (4, 79), (1, 8), (2, 20), (4, 100), (4, 102), (0, 26), (1, 7), (2, 14), (2, 16), (4, 108), (3, 236), (3, 237), (1, 4), (2, 16), (4, 109), (4, 110), (4, 111), (1, 10), (2, 8), (2, 16), (4, 77), (4, 78), (4, 79), (1, 8), (2, 12), (2, 8), (1, 231), (2, 13), (2, 8), (1, 231)] rfl (by decide +kernel)
set_option maxRecDepth 100000 in
theorem ck_Runs_setLiars : xok z_Runs_setLiars := xok_of (by decide +kernel) [(4, 103), (2, 18), (2, 17), (2, 14), (1, 123), (4, 104), (4, 106), (0, 27), (1, 7), (2, 14), (1, 125), (4, 104), (4, 106), (0, 27), (1, 7), (2, 14), (1, 127), (4, 104), (4, 106), (0, 27), (1, 7)] rfl (by decide +kernel)
set_option maxRecDepth 100000 in
theorem ck_Runs_doneBy : xok z_Runs_doneBy := xok_of (by decide +kernel) [(4, 107), (2, 18), (2, 19), (2, 19), (2, 19), (2, 19), (2, 19)] rfl (by decide +kernel)
set_option maxRecDepth 100000 in
theorem ck_Runs_firstBad : xok z_Runs_firstBad := xok_of (by decide +kernel) [(4, 116), (2, 15), (1, 183), (2, 8), (1, 231), (2, 8), (2, 15), (4, 95), (4, 96), (4, 97), (1, 8), (2, 14), (2, 15), (4, 117), (4, 33), (4, 34), (1, 4)] rfl (by decide +kernel)
set_option maxRecDepth 100000 in
theorem ck_Runs_doneOnTheWay : xok z_Runs_doneOnTheWay := xok_of (by decide +kernel) [(4, 129), (2, 12), (2, 13), (4, 104), (4, 106), (0, 27), (1, 7)] rfl (by decide +kernel)
set_option maxRecDepth 100000 in
theorem ck_Tape_init : xok z_Tape_init := xok_of (by decide +kernel) [(1, 80), (1, 81), (1, 25), (1, 26), (1, 75), (1, 82)] rfl (by decide +kernel)
set_option maxRecDepth 100000 in
theorem ck_Tape_append : xok z_Tape_append := xok_of (by decide +kernel) [(2, 239), (1, 83), (1, 82), (1, 83), (1, 83), (1, 83)] rfl (by decide +kernel)
set_option maxRecDepth 100000 in
theorem ck_Tape_read : xok z_Tape_read := xok_of (by decide +kernel) [(3, 11), (1, 89), (1, 89), (3, 12), (3, 13), (3, 14), (1, 2), (1, 85), (1, 87), (1, 92), (3, 16), (3, 18), (0, 1), (1, 3), (1, 90), (3, 111), (3, 113), (0, 6), (1, 3)] rfl (by decide +kernel)
set_option maxRecDepth 100000 in
theorem ck_Tape_readClause : xok z_Tape_readClause := xok_of (by decide +kernel) [(3, 114), (1, 90), (3, 115), (3, 117), (0, 7), (1, 3), (3, 16), (3, 18), (0, 1), (1, 3), (1, 89), (1, 52), (3, 127), (3, 129), (0, 9), (1, 3), (3, 143), (3, 145), (0, 12), (1, 3), (3, 159), (3, 161), (0, 16), (1, 3), (1, 89), (3, 171), (3, 172), (3, 173), (1, 2)] rfl (by decide +kernel)
set_option maxRecDepth 100000 in
theorem ck_Tape_mayBegin : xok z_Tape_mayBegin := xok_of (by decide +kernel) [(3, 118), (3, 119), (3, 121), (0, 8), (1, 3), (1, 89), (3, 123), (3, 124), (3, 125), (1, 2), (3, 119), (3, 121), (0, 8), (1, 3), (1, 89), (1, 54), (3, 119), (3, 121), (0, 8), (1, 3)] rfl (by decide +kernel)
set_option maxRecDepth 100000 in
theorem ck_Tape_readEither : xok z_Tape_readEither := xok_of (by decide +kernel) [(3, 130), (3, 131), (3, 133), (0, 10), (1, 3), (1, 90), (3, 16), (3, 18), (0, 1), (1, 3), (3, 131), (3, 133), (0, 10), (1, 3), (3, 167), (3, 169), (0, 17), (1, 3)] rfl (by decide +kernel)
set_option maxRecDepth 100000 in
theorem ck_Tape_readBoth : xok z_Tape_readBoth := xok_of (by decide +kernel) [(3, 134), (3, 135), (3, 137), (0, 11), (1, 3), (1, 90), (3, 16), (3, 18), (0, 1), (1, 3), (3, 135), (3, 137), (0, 11), (1, 3), (3, 167), (3, 169), (0, 17), (1, 3)] rfl (by decide +kernel)
set_option maxRecDepth 100000 in
theorem ck_Tape_readAsk : xok z_Tape_readAsk := xok_of (by decide +kernel) [(3, 138), (1, 90), (3, 119), (3, 121), (0, 8), (1, 3), (3, 16), (3, 18), (0, 1), (1, 3), (3, 135), (3, 137), (0, 11), (1, 3), (1, 89), (3, 139), (3, 140), (3, 141), (1, 2), (3, 143), (3, 145), (0, 12), (1, 3), (1, 90), (3, 119), (3, 121), (0, 8), (1, 3), (3, 16), (3, 18), (0, 1), (1, 3), (3, 143), (3, 145), (0, 12), (1, 3), (3, 167), (3, 169), (0, 17), (1, 3)] rfl (by decide +kernel)
set_option maxRecDepth 100000 in
theorem ck_Tape_readSum : xok z_Tape_readSum := xok_of (by decide +kernel) [(3, 146), (3, 147), (3, 149), (0, 13), (1, 3), (1, 90), (1, 90), (1, 90), (3, 16), (3, 18), (0, 1), (1, 3), (3, 147), (3, 149), (0, 13), (1, 3), (3, 167), (3, 169), (0, 17), (1, 3)] rfl (by decide +kernel)
set_option maxRecDepth 100000 in
theorem ck_Tape_readProduct : xok z_Tape_readProduct := xok_of (by decide +kernel) [(3, 150), (3, 151), (3, 153), (0, 14), (1, 3), (1, 90), (1, 90), (1, 90), (3, 16), (3, 18), (0, 1), (1, 3), (3, 151), (3, 153), (0, 14), (1, 3), (3, 167), (3, 169), (0, 17), (1, 3)] rfl (by decide +kernel)
set_option maxRecDepth 100000 in
theorem ck_Tape_readOne : xok z_Tape_readOne := xok_of (by decide +kernel) [(3, 154), (1, 90), (1, 93), (3, 119), (3, 121), (0, 8), (1, 3), (3, 119), (3, 121), (0, 8), (1, 3), (3, 119), (3, 121), (0, 8), (1, 3), (3, 16), (3, 18), (0, 1), (1, 3), (1, 89), (3, 139), (3, 140), (3, 141), (1, 2), (3, 155), (3, 157), (0, 15), (1, 3), (3, 151), (3, 153), (0, 14), (1, 3), (1, 89), (3, 139), (3, 140), (3, 141), (1, 2), (3, 143), (3, 145), (0, 12), (1, 3), (3, 159), (3, 161), (0, 16), (1, 3)] rfl (by decide +kernel)
