/-! printed by gen.py: each method is as it is printed, and where its words stand -/
set_option maxRecDepth 100000 in
theorem ck_C_isRunAsked : xok z_C_isRunAsked := xok_of (by decide +kernel) [(4, 59), (2, 215), (1, 1), (2, 214), (2, 215), (1, 1), (2, 214), (2, 177), (2, 149), (4, 60), (4, 61), (4, 62), (1, 9)] rfl (by decide +kernel)
set_option maxRecDepth 100000 in
theorem ck_C_canBeHeard : xok z_C_canBeHeard := xok_of (by decide +kernel) [(4, 158), (2, 174), (2, 175), (2, 177), (2, 155), (2, 106), (2, 177), (2, 155), (4, 64), (4, 65), (4, 66), (1, 7), (2, 174), (2, 9), (1, 232)] rfl (by decide +kernel)
set_option maxRecDepth 100000 in
theorem ck_C_isNoteOrNone : xok z_C_isNoteOrNone := xok_of (by decide +kernel) [(2, 227), (2, 215), (1, 1), (2, 214)] rfl (by decide +kernel)
set_option maxRecDepth 100000 in
theorem ck_C_isWithin : xok z_C_isWithin := xok_of (by decide +kernel) [(2, 216)] rfl (by decide +kernel)
set_option maxRecDepth 100000 in
theorem ck_C_bounded : xok z_C_bounded := xok_of (by decide +kernel) [(1, 29)] rfl (by decide +kernel)
set_option maxRecDepth 100000 in
theorem ck_M_init : xok z_M_init := xok_of (by decide +kernel) [(4, 228), (4, 229), (1, 25), (1, 26), (1, 75), (4, 238), (1, 75), (4, 239), (1, 75), (5, 1), (1, 75), (5, 2), (5, 4), (5, 5), (1, 75), (5, 13), (1, 75), (5, 18), (5, 117), (5, 19), (1, 145), (5, 20), (1, 75), (5, 21), (1, 75), (5, 22), (1, 75), (5, 23), (4, 230), (1, 75), (5, 24), (1, 75), (5, 25), (1, 75), (5, 26), (1, 75), (5, 27), (1, 75), (5, 28), (1, 75), (5, 29), (1, 75), (5, 30), (1, 75), (5, 33), (1, 75), (5, 34), (1, 75), (5, 35), (5, 0), (4, 238), (4, 238), (4, 238), (4, 238), (4, 238), (4, 231), (4, 233), (0, 31), (1, 13), (4, 238), (4, 239), (4, 236), (1, 13), (4, 235)] rfl (by decide +kernel)
set_option maxRecDepth 100000 in
theorem ck_M_copy : xok z_M_copy := xok_of (by decide +kernel) [(4, 237)] rfl (by decide +kernel)
set_option maxRecDepth 100000 in
theorem ck_M_isIn : xok z_M_isIn := xok_of (by decide +kernel) [(5, 128)] rfl (by decide +kernel)
set_option maxRecDepth 100000 in
theorem ck_M_held : xok z_M_held := xok_of (by decide +kernel) [(6, 104)] rfl (by decide +kernel)
set_option maxRecDepth 100000 in
theorem ck_M_isRoom : xok z_M_isRoom := xok_of (by decide +kernel) [(5, 125), (5, 0), (5, 127), (1, 13), (5, 126)] rfl (by decide +kernel)
set_option maxRecDepth 100000 in
theorem ck_M_leftOf : xok z_M_leftOf := xok_of (by decide +kernel) [(6, 62), (5, 0)] rfl (by decide +kernel)
set_option maxRecDepth 100000 in
theorem ck_M_rightOf : xok z_M_rightOf := xok_of (by decide +kernel) [(6, 70), (5, 0)] rfl (by decide +kernel)
set_option maxRecDepth 100000 in
theorem ck_M_begin : xok z_M_begin := xok_of (by decide +kernel) [(4, 234), (4, 238)] rfl (by decide +kernel)
set_option maxRecDepth 100000 in
theorem ck_M_elder : xok z_M_elder := xok_of (by decide +kernel) [(5, 121), (5, 122), (5, 124), (0, 32), (1, 13), (5, 127), (1, 13), (5, 126), (5, 127), (1, 13), (5, 126), (4, 238), (4, 238)] rfl (by decide +kernel)
set_option maxRecDepth 100000 in
theorem ck_M_stuck : xok z_M_stuck := xok_of (by decide +kernel) [(5, 132), (5, 122), (5, 124), (0, 32), (1, 13), (4, 238)] rfl (by decide +kernel)
set_option maxRecDepth 100000 in
theorem ck_M_lies : xok z_M_lies := xok_of (by decide +kernel) [(5, 136), (5, 122), (5, 124), (0, 32), (1, 13), (5, 127), (1, 13), (5, 126), (5, 127), (1, 13), (5, 126), (4, 238), (4, 238), (4, 238)] rfl (by decide +kernel)
set_option maxRecDepth 100000 in
theorem ck_M_bar : xok z_M_bar := xok_of (by decide +kernel) [(5, 140), (5, 127), (1, 13), (5, 126), (4, 238)] rfl (by decide +kernel)
set_option maxRecDepth 100000 in
theorem ck_M_four : xok z_M_four := xok_of (by decide +kernel) [(5, 148), (5, 2), (5, 3), (5, 3), (5, 3)] rfl (by decide +kernel)
set_option maxRecDepth 100000 in
theorem ck_M_feed : xok z_M_feed := xok_of (by decide +kernel) [(5, 144), (5, 3), (5, 145), (5, 147), (0, 33), (1, 13), (5, 145), (5, 147), (0, 33), (1, 13), (5, 145), (5, 147), (0, 33), (1, 13), (5, 145), (5, 147), (0, 33), (1, 13), (5, 145), (5, 147), (0, 33), (1, 13), (5, 3)] rfl (by decide +kernel)
set_option maxRecDepth 100000 in
theorem ck_M_end : xok z_M_end := xok_of (by decide +kernel) [(5, 152), (5, 3), (5, 127), (1, 13), (5, 126), (5, 3)] rfl (by decide +kernel)
set_option maxRecDepth 100000 in
theorem ck_M_byteAt : xok z_M_byteAt := xok_of (by decide +kernel) [(5, 168), (5, 3), (5, 2)] rfl (by decide +kernel)
set_option maxRecDepth 100000 in
theorem ck_M_isLetter : xok z_M_isLetter := xok_of (by decide +kernel) [(5, 175), (5, 127), (1, 13), (5, 126), (5, 127), (1, 13), (5, 126)] rfl (by decide +kernel)
set_option maxRecDepth 100000 in
theorem ck_M_isDigit : xok z_M_isDigit := xok_of (by decide +kernel) [(5, 171), (5, 127), (1, 13), (5, 126)] rfl (by decide +kernel)
set_option maxRecDepth 100000 in
theorem ck_M_nextToken : xok z_M_nextToken := xok_of (by decide +kernel) [(5, 164), (5, 6), (5, 165), (5, 167), (0, 36), (1, 13), (5, 6), (5, 165), (5, 167), (0, 36), (1, 13), (5, 6), (5, 6), (5, 6), (5, 7), (5, 6), (5, 165), (5, 167), (0, 36), (1, 13), (5, 8), (5, 170), (1, 13), (5, 169), (5, 8), (5, 9), (5, 6), (5, 165), (5, 167), (0, 36), (1, 13), (5, 170), (1, 13), (5, 169), (5, 9), (5, 172), (5, 9), (5, 6), (5, 165), (5, 167), (0, 36), (1, 13), (5, 9), (5, 6), (5, 6), (5, 174), (1, 13), (5, 173), (5, 8), (5, 10), (5, 6), (5, 165), (5, 167), (0, 36), (1, 13), (5, 174), (1, 13), (5, 173), (5, 6), (5, 7), (5, 10), (5, 6), (5, 165), (5, 167), (0, 36), (1, 13), (5, 10), (5, 6), (5, 6), (5, 6), (5, 7), (5, 10), (5, 6), (5, 6), (5, 8), (5, 6), (5, 165), (5, 167), (0, 36), (1, 13), (5, 6), (5, 6), (5, 8)] rfl (by decide +kernel)
set_option maxRecDepth 100000 in
theorem ck_M_w3 : xok z_M_w3 := xok_of (by decide +kernel) [(5, 189)] rfl (by decide +kernel)
set_option maxRecDepth 100000 in
theorem ck_M_w5 : xok z_M_w5 := xok_of (by decide +kernel) [(5, 196), (5, 188), (1, 13), (5, 187)] rfl (by decide +kernel)
set_option maxRecDepth 100000 in
theorem ck_M_w4 : xok z_M_w4 := xok_of (by decide +kernel) [(5, 186), (5, 188), (1, 13), (5, 187)] rfl (by decide +kernel)
set_option maxRecDepth 100000 in
theorem ck_M_isWord : xok z_M_isWord := xok_of (by decide +kernel) [(5, 193), (5, 8), (5, 10)] rfl (by decide +kernel)
set_option maxRecDepth 100000 in
theorem ck_M_emit : xok z_M_emit := xok_of (by decide +kernel) [(5, 236), (5, 1), (5, 11), (5, 12), (5, 1), (5, 11), (5, 12), (5, 12), (5, 12)] rfl (by decide +kernel)
set_option maxRecDepth 100000 in
theorem ck_M_push : xok z_M_push := xok_of (by decide +kernel) [(6, 0), (5, 13), (5, 14), (5, 14), (5, 14)] rfl (by decide +kernel)
set_option maxRecDepth 100000 in
theorem ck_M_rank : xok z_M_rank := xok_of (by decide +kernel) [(5, 223)] rfl (by decide +kernel)
set_option maxRecDepth 100000 in
theorem ck_M_settle : xok z_M_settle := xok_of (by decide +kernel) [(5, 232), (5, 14), (5, 13), (5, 14), (5, 222), (1, 13), (5, 221), (5, 14), (5, 14), (5, 13), (5, 14), (5, 233), (5, 235), (0, 48), (1, 13), (5, 13), (5, 14), (5, 13), (5, 14), (5, 15), (5, 15)] rfl (by decide +kernel)
set_option maxRecDepth 100000 in
theorem ck_M_whole : xok z_M_whole := xok_of (by decide +kernel) [(6, 4), (5, 16), (5, 229), (5, 231), (0, 47), (1, 13)] rfl (by decide +kernel)
set_option maxRecDepth 100000 in
theorem ck_M_marker : xok z_M_marker := xok_of (by decide +kernel) [(5, 216), (5, 14), (5, 13)] rfl (by decide +kernel)
set_option maxRecDepth 100000 in
theorem ck_M_kindOpen : xok z_M_kindOpen := xok_of (by decide +kernel) [(5, 212), (5, 213), (5, 215), (0, 44), (1, 13), (5, 13)] rfl (by decide +kernel)
set_option maxRecDepth 100000 in
theorem ck_M_isCompared : xok z_M_isCompared := xok_of (by decide +kernel) [(5, 220), (5, 14), (5, 13), (5, 222), (1, 13), (5, 221), (5, 13), (5, 222), (1, 13), (5, 221)] rfl (by decide +kernel)
set_option maxRecDepth 100000 in
theorem ck_M_isAskAhead : xok z_M_isAskAhead := xok_of (by decide +kernel) [(6, 26), (5, 209), (5, 211), (0, 43), (1, 13), (5, 14), (5, 13), (5, 14), (5, 13), (5, 14), (5, 222), (1, 13), (5, 221), (5, 127), (1, 13), (5, 126)] rfl (by decide +kernel)
set_option maxRecDepth 100000 in
theorem ck_M_opensBy : xok z_M_opensBy := xok_of (by decide +kernel) [(6, 21), (5, 15), (5, 15), (5, 15), (5, 237), (5, 239), (0, 49), (1, 13), (5, 161), (5, 163), (0, 35), (1, 13)] rfl (by decide +kernel)
set_option maxRecDepth 100000 in
theorem ck_M_beginOne : xok z_M_beginOne := xok_of (by decide +kernel) [(6, 8), (5, 8), (5, 9), (6, 9), (6, 11), (0, 52), (1, 13), (5, 8), (5, 8), (5, 8), (5, 9), (5, 233), (5, 235), (0, 48), (1, 13), (5, 161), (5, 163), (0, 35), (1, 13), (6, 1), (6, 3), (0, 50), (1, 13), (5, 8), (6, 18), (6, 20), (0, 54), (1, 13), (5, 8), (6, 18), (6, 20), (0, 54), (1, 13), (5, 8), (5, 10), (6, 22), (6, 18), (6, 20), (0, 54), (1, 13), (5, 188), (1, 13), (5, 187), (5, 190), (5, 192), (0, 39), (1, 13), (6, 23), (6, 25), (0, 55), (1, 13), (6, 18), (6, 20), (0, 54), (1, 13)] rfl (by decide +kernel)
set_option maxRecDepth 100000 in
theorem ck_M_compareOf : xok z_M_compareOf := xok_of (by decide +kernel) [(5, 227), (5, 8), (5, 8), (5, 8), (5, 8), (5, 8), (5, 8)] rfl (by decide +kernel)
set_option maxRecDepth 100000 in
theorem ck_M_betweenOf : xok z_M_betweenOf := xok_of (by decide +kernel) [(5, 208), (5, 8), (5, 8), (5, 8), (5, 8), (5, 209), (5, 211), (0, 43), (1, 13), (5, 217), (5, 219), (0, 45), (1, 13), (5, 224), (5, 226), (0, 46), (1, 13), (5, 188), (1, 13), (5, 187), (5, 190), (5, 192), (0, 39), (1, 13), (5, 8), (5, 10), (5, 228)] rfl (by decide +kernel)
set_option maxRecDepth 100000 in
theorem ck_M_behindOne : xok z_M_behindOne := xok_of (by decide +kernel) [(5, 204), (5, 205), (5, 207), (0, 42), (1, 13), (5, 213), (5, 215), (0, 44), (1, 13), (5, 13), (5, 222), (1, 13), (5, 221), (5, 229), (5, 231), (0, 47), (1, 13), (5, 237), (5, 239), (0, 49), (1, 13), (5, 16), (5, 8), (5, 188), (1, 13), (5, 187), (5, 190), (5, 192), (0, 39), (1, 13), (5, 229), (5, 231), (0, 47), (1, 13), (5, 14), (5, 14), (5, 15), (5, 15), (5, 233), (5, 235), (0, 48), (1, 13), (6, 1), (6, 3), (0, 50), (1, 13), (5, 8), (5, 217), (5, 219), (0, 45), (1, 13), (5, 8), (5, 229), (5, 231), (0, 47), (1, 13), (5, 13), (5, 16), (5, 161), (5, 163), (0, 35), (1, 13)] rfl (by decide +kernel)
set_option maxRecDepth 100000 in
theorem ck_M_parsed : xok z_M_parsed := xok_of (by decide +kernel) [(5, 200), (5, 14), (5, 16), (5, 16), (5, 201), (5, 203), (0, 41), (1, 13), (6, 5), (6, 7), (0, 51), (1, 13), (5, 213), (5, 215), (0, 44), (1, 13), (5, 217), (5, 219), (0, 45), (1, 13), (5, 229), (5, 231), (0, 47), (1, 13)] rfl (by decide +kernel)
set_option maxRecDepth 100000 in
theorem ck_M_isGotRight : xok z_M_isGotRight := xok_of (by decide +kernel) [(6, 17), (5, 6), (5, 7), (5, 7), (5, 165), (5, 167), (0, 36), (1, 13), (5, 7), (5, 165), (5, 167), (0, 36), (1, 13), (5, 7), (5, 165), (5, 167), (0, 36), (1, 13), (5, 7), (5, 165), (5, 167), (0, 36), (1, 13), (5, 7), (5, 165), (5, 167), (0, 36), (1, 13), (5, 7), (5, 165), (5, 167), (0, 36), (1, 13), (5, 7), (5, 165), (5, 167), (0, 36), (1, 13), (5, 7), (5, 165), (5, 167), (0, 36), (1, 13)] rfl (by decide +kernel)
set_option maxRecDepth 100000 in
theorem ck_M_nameOf : xok z_M_nameOf := xok_of (by decide +kernel) [(6, 12), (5, 8), (5, 10), (6, 13), (5, 10), (5, 185), (1, 13), (5, 184), (5, 10), (5, 188), (1, 13), (5, 187), (5, 185), (1, 13), (5, 184), (6, 14), (6, 16), (0, 53), (1, 13), (5, 10), (5, 185), (1, 13), (5, 184), (5, 10), (5, 185), (1, 13), (5, 184), (5, 10), (5, 195), (1, 13), (5, 194), (5, 10), (5, 195), (1, 13), (5, 194)] rfl (by decide +kernel)
set_option maxRecDepth 100000 in
theorem ck_M_sortOf : xok z_M_sortOf := xok_of (by decide +kernel) [(5, 183), (5, 185), (1, 13), (5, 184), (5, 190), (5, 192), (0, 39), (1, 13), (5, 185), (1, 13), (5, 184), (5, 190), (5, 192), (0, 39), (1, 13), (5, 195), (1, 13), (5, 194), (5, 190), (5, 192), (0, 39), (1, 13), (5, 185), (1, 13), (5, 184), (5, 190), (5, 192), (0, 39), (1, 13), (5, 185), (1, 13), (5, 184), (5, 190), (5, 192), (0, 39), (1, 13)] rfl (by decide +kernel)
set_option maxRecDepth 100000 in
theorem ck_M_clause : xok z_M_clause := xok_of (by decide +kernel) [(5, 179), (5, 180), (5, 182), (0, 38), (1, 13), (5, 17), (5, 1), (5, 11), (5, 17), (5, 17), (5, 161), (5, 163), (0, 35), (1, 13), (5, 11), (5, 1), (5, 1), (5, 12), (5, 197), (5, 199), (0, 40), (1, 13), (5, 1), (5, 12), (5, 1), (5, 11), (5, 8), (5, 161), (5, 163), (0, 35), (1, 13)] rfl (by decide +kernel)
set_option maxRecDepth 100000 in
theorem ck_M_readText : xok z_M_readText := xok_of (by decide +kernel) [(5, 160), (4, 238), (5, 11), (5, 1), (5, 11), (5, 12), (5, 15), (5, 17), (5, 6), (5, 161), (5, 163), (0, 35), (1, 13), (5, 8), (5, 176), (5, 178), (0, 37), (1, 13)] rfl (by decide +kernel)
set_option maxRecDepth 100000 in
theorem ck_M_text : xok z_M_text := xok_of (by decide +kernel) [(5, 156), (4, 238), (5, 157), (5, 159), (0, 34), (1, 13), (5, 4), (5, 4), (5, 7), (5, 5), (5, 3), (5, 4), (4, 238), (4, 238)] rfl (by decide +kernel)
set_option maxRecDepth 100000 in
theorem ck_M_fault : xok z_M_fault := xok_of (by decide +kernel) [(6, 30), (5, 4), (5, 5)] rfl (by decide +kernel)
set_option maxRecDepth 100000 in
theorem ck_M_by : xok z_M_by := xok_of (by decide +kernel) [(6, 34), (4, 238), (5, 127), (1, 13), (5, 126), (4, 238)] rfl (by decide +kernel)
set_option maxRecDepth 100000 in
theorem ck_M_clip : xok z_M_clip := xok_of (by decide +kernel) [(6, 96), (6, 97), (6, 97), (6, 98), (6, 98)] rfl (by decide +kernel)
set_option maxRecDepth 100000 in
theorem ck_M_two : xok z_M_two := xok_of (by decide +kernel) [(6, 93), (6, 95), (1, 13), (6, 94), (6, 95), (1, 13), (6, 94), (6, 95), (1, 13), (6, 94), (6, 95), (1, 13), (6, 94)] rfl (by decide +kernel)
set_option maxRecDepth 100000 in
theorem ck_M_isAsked : xok z_M_isAsked := xok_of (by decide +kernel) [(6, 101)] rfl (by decide +kernel)
set_option maxRecDepth 100000 in
theorem ck_M_work : xok z_M_work := xok_of (by decide +kernel) [(6, 90), (4, 238), (4, 238), (5, 1), (5, 1), (5, 1), (5, 1), (5, 19), (5, 18), (5, 19), (5, 19), (5, 19), (5, 19), (5, 19), (6, 92), (1, 13), (6, 91), (5, 20), (5, 19), (5, 19), (6, 100), (1, 13), (6, 99), (5, 20), (5, 20), (5, 19), (5, 20), (5, 19), (5, 19), (5, 20), (5, 20), (5, 20), (5, 20), (5, 20)] rfl (by decide +kernel)
