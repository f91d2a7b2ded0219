/-! printed by gen.py: each method is as it is printed, and where its words stand -/
set_option maxRecDepth 100000 in
theorem ck_C_canBeHeard : xok z_C_canBeHeard := xok_of (by decide +kernel) [(4, 167), (2, 178), (2, 179), (2, 181), (2, 159), (2, 110), (2, 181), (2, 159), (4, 68), (4, 69), (4, 70), (1, 7), (2, 178), (2, 9), (1, 232)] rfl (by decide +kernel)
set_option maxRecDepth 100000 in
theorem ck_C_isNoteOrNone : xok z_C_isNoteOrNone := xok_of (by decide +kernel) [(2, 231), (2, 219), (1, 1), (2, 218)] rfl (by decide +kernel)
set_option maxRecDepth 100000 in
theorem ck_C_isWithin : xok z_C_isWithin := xok_of (by decide +kernel) [(2, 220)] rfl (by decide +kernel)
set_option maxRecDepth 100000 in
theorem ck_C_bounded : xok z_C_bounded := xok_of (by decide +kernel) [(1, 29)] rfl (by decide +kernel)
set_option maxRecDepth 100000 in
theorem ck_M_init : xok z_M_init := xok_of (by decide +kernel) [(4, 237), (4, 238), (1, 25), (1, 26), (1, 75), (5, 7), (1, 75), (5, 8), (1, 75), (5, 10), (1, 75), (5, 11), (5, 13), (5, 14), (1, 75), (5, 22), (1, 75), (5, 27), (5, 126), (5, 28), (1, 145), (5, 29), (1, 75), (5, 30), (1, 75), (5, 31), (1, 75), (5, 32), (4, 239), (1, 75), (5, 33), (1, 75), (5, 34), (1, 75), (5, 35), (1, 75), (5, 36), (1, 75), (5, 37), (1, 75), (5, 38), (1, 75), (5, 39), (1, 75), (5, 42), (1, 75), (5, 43), (1, 75), (5, 44), (5, 9), (5, 7), (5, 7), (5, 7), (5, 7), (5, 7), (5, 0), (5, 2), (0, 32), (1, 13), (5, 7), (5, 8), (5, 5), (1, 13), (5, 4)] rfl (by decide +kernel)
set_option maxRecDepth 100000 in
theorem ck_M_copy : xok z_M_copy := xok_of (by decide +kernel) [(5, 6)] rfl (by decide +kernel)
set_option maxRecDepth 100000 in
theorem ck_M_isIn : xok z_M_isIn := xok_of (by decide +kernel) [(5, 137)] rfl (by decide +kernel)
set_option maxRecDepth 100000 in
theorem ck_M_held : xok z_M_held := xok_of (by decide +kernel) [(6, 113)] rfl (by decide +kernel)
set_option maxRecDepth 100000 in
theorem ck_M_isRoom : xok z_M_isRoom := xok_of (by decide +kernel) [(5, 134), (5, 9), (5, 136), (1, 13), (5, 135)] rfl (by decide +kernel)
set_option maxRecDepth 100000 in
theorem ck_M_leftOf : xok z_M_leftOf := xok_of (by decide +kernel) [(6, 71), (5, 9)] rfl (by decide +kernel)
set_option maxRecDepth 100000 in
theorem ck_M_rightOf : xok z_M_rightOf := xok_of (by decide +kernel) [(6, 79), (5, 9)] rfl (by decide +kernel)
set_option maxRecDepth 100000 in
theorem ck_M_begin : xok z_M_begin := xok_of (by decide +kernel) [(5, 3), (5, 7)] rfl (by decide +kernel)
set_option maxRecDepth 100000 in
theorem ck_M_elder : xok z_M_elder := xok_of (by decide +kernel) [(5, 130), (5, 131), (5, 133), (0, 33), (1, 13), (5, 136), (1, 13), (5, 135), (5, 136), (1, 13), (5, 135), (5, 7), (5, 7)] rfl (by decide +kernel)
set_option maxRecDepth 100000 in
theorem ck_M_stuck : xok z_M_stuck := xok_of (by decide +kernel) [(5, 141), (5, 131), (5, 133), (0, 33), (1, 13), (5, 7)] rfl (by decide +kernel)
set_option maxRecDepth 100000 in
theorem ck_M_lies : xok z_M_lies := xok_of (by decide +kernel) [(5, 145), (5, 131), (5, 133), (0, 33), (1, 13), (5, 136), (1, 13), (5, 135), (5, 136), (1, 13), (5, 135), (5, 7), (5, 7), (5, 7)] rfl (by decide +kernel)
set_option maxRecDepth 100000 in
theorem ck_M_bar : xok z_M_bar := xok_of (by decide +kernel) [(5, 149), (5, 136), (1, 13), (5, 135), (5, 7)] rfl (by decide +kernel)
set_option maxRecDepth 100000 in
theorem ck_M_four : xok z_M_four := xok_of (by decide +kernel) [(5, 157), (5, 11), (5, 12), (5, 12), (5, 12)] rfl (by decide +kernel)
set_option maxRecDepth 100000 in
theorem ck_M_feed : xok z_M_feed := xok_of (by decide +kernel) [(5, 153), (5, 12), (5, 154), (5, 156), (0, 34), (1, 13), (5, 154), (5, 156), (0, 34), (1, 13), (5, 154), (5, 156), (0, 34), (1, 13), (5, 154), (5, 156), (0, 34), (1, 13), (5, 154), (5, 156), (0, 34), (1, 13), (5, 12)] rfl (by decide +kernel)
set_option maxRecDepth 100000 in
theorem ck_M_end : xok z_M_end := xok_of (by decide +kernel) [(5, 161), (5, 12), (5, 136), (1, 13), (5, 135), (5, 12)] rfl (by decide +kernel)
set_option maxRecDepth 100000 in
theorem ck_M_byteAt : xok z_M_byteAt := xok_of (by decide +kernel) [(5, 177), (5, 12), (5, 11)] rfl (by decide +kernel)
set_option maxRecDepth 100000 in
theorem ck_M_isLetter : xok z_M_isLetter := xok_of (by decide +kernel) [(5, 184), (5, 136), (1, 13), (5, 135), (5, 136), (1, 13), (5, 135)] rfl (by decide +kernel)
set_option maxRecDepth 100000 in
theorem ck_M_isDigit : xok z_M_isDigit := xok_of (by decide +kernel) [(5, 180), (5, 136), (1, 13), (5, 135)] rfl (by decide +kernel)
set_option maxRecDepth 100000 in
theorem ck_M_nextToken : xok z_M_nextToken := xok_of (by decide +kernel) [(5, 173), (5, 15), (5, 174), (5, 176), (0, 37), (1, 13), (5, 15), (5, 174), (5, 176), (0, 37), (1, 13), (5, 15), (5, 15), (5, 15), (5, 16), (5, 15), (5, 174), (5, 176), (0, 37), (1, 13), (5, 17), (5, 179), (1, 13), (5, 178), (5, 17), (5, 18), (5, 15), (5, 174), (5, 176), (0, 37), (1, 13), (5, 179), (1, 13), (5, 178), (5, 18), (5, 181), (5, 18), (5, 15), (5, 174), (5, 176), (0, 37), (1, 13), (5, 18), (5, 15), (5, 15), (5, 183), (1, 13), (5, 182), (5, 17), (5, 19), (5, 15), (5, 174), (5, 176), (0, 37), (1, 13), (5, 183), (1, 13), (5, 182), (5, 15), (5, 16), (5, 19), (5, 15), (5, 174), (5, 176), (0, 37), (1, 13), (5, 19), (5, 15), (5, 15), (5, 15), (5, 16), (5, 19), (5, 15), (5, 15), (5, 17), (5, 15), (5, 174), (5, 176), (0, 37), (1, 13), (5, 15), (5, 15), (5, 17)] rfl (by decide +kernel)
set_option maxRecDepth 100000 in
theorem ck_M_w3 : xok z_M_w3 := xok_of (by decide +kernel) [(5, 198)] rfl (by decide +kernel)
set_option maxRecDepth 100000 in
theorem ck_M_w5 : xok z_M_w5 := xok_of (by decide +kernel) [(5, 205), (5, 197), (1, 13), (5, 196)] rfl (by decide +kernel)
set_option maxRecDepth 100000 in
theorem ck_M_w4 : xok z_M_w4 := xok_of (by decide +kernel) [(5, 195), (5, 197), (1, 13), (5, 196)] rfl (by decide +kernel)
set_option maxRecDepth 100000 in
theorem ck_M_isWord : xok z_M_isWord := xok_of (by decide +kernel) [(5, 202), (5, 17), (5, 19)] rfl (by decide +kernel)
set_option maxRecDepth 100000 in
theorem ck_M_emit : xok z_M_emit := xok_of (by decide +kernel) [(6, 5), (5, 10), (5, 20), (5, 21), (5, 10), (5, 20), (5, 21), (5, 21), (5, 21)] rfl (by decide +kernel)
set_option maxRecDepth 100000 in
theorem ck_M_push : xok z_M_push := xok_of (by decide +kernel) [(6, 9), (5, 22), (5, 23), (5, 23), (5, 23)] rfl (by decide +kernel)
set_option maxRecDepth 100000 in
theorem ck_M_rank : xok z_M_rank := xok_of (by decide +kernel) [(5, 232)] rfl (by decide +kernel)
set_option maxRecDepth 100000 in
theorem ck_M_settle : xok z_M_settle := xok_of (by decide +kernel) [(6, 1), (5, 23), (5, 22), (5, 23), (5, 231), (1, 13), (5, 230), (5, 23), (5, 23), (5, 22), (5, 23), (6, 2), (6, 4), (0, 49), (1, 13), (5, 22), (5, 23), (5, 22), (5, 23), (5, 24), (5, 24)] rfl (by decide +kernel)
set_option maxRecDepth 100000 in
theorem ck_M_whole : xok z_M_whole := xok_of (by decide +kernel) [(6, 13), (5, 25), (5, 238), (6, 0), (0, 48), (1, 13)] rfl (by decide +kernel)
set_option maxRecDepth 100000 in
theorem ck_M_marker : xok z_M_marker := xok_of (by decide +kernel) [(5, 225), (5, 23), (5, 22)] rfl (by decide +kernel)
set_option maxRecDepth 100000 in
theorem ck_M_kindOpen : xok z_M_kindOpen := xok_of (by decide +kernel) [(5, 221), (5, 222), (5, 224), (0, 45), (1, 13), (5, 22)] rfl (by decide +kernel)
set_option maxRecDepth 100000 in
theorem ck_M_isCompared : xok z_M_isCompared := xok_of (by decide +kernel) [(5, 229), (5, 23), (5, 22), (5, 231), (1, 13), (5, 230), (5, 22), (5, 231), (1, 13), (5, 230)] rfl (by decide +kernel)
set_option maxRecDepth 100000 in
theorem ck_M_isAskAhead : xok z_M_isAskAhead := xok_of (by decide +kernel) [(6, 35), (5, 218), (5, 220), (0, 44), (1, 13), (5, 23), (5, 22), (5, 23), (5, 22), (5, 23), (5, 231), (1, 13), (5, 230), (5, 136), (1, 13), (5, 135)] rfl (by decide +kernel)
set_option maxRecDepth 100000 in
theorem ck_M_opensBy : xok z_M_opensBy := xok_of (by decide +kernel) [(6, 30), (5, 24), (5, 24), (5, 24), (6, 6), (6, 8), (0, 50), (1, 13), (5, 170), (5, 172), (0, 36), (1, 13)] rfl (by decide +kernel)
set_option maxRecDepth 100000 in
theorem ck_M_beginOne : xok z_M_beginOne := xok_of (by decide +kernel) [(6, 17), (5, 17), (5, 18), (6, 18), (6, 20), (0, 53), (1, 13), (5, 17), (5, 17), (5, 17), (5, 18), (6, 2), (6, 4), (0, 49), (1, 13), (5, 170), (5, 172), (0, 36), (1, 13), (6, 10), (6, 12), (0, 51), (1, 13), (5, 17), (6, 27), (6, 29), (0, 55), (1, 13), (5, 17), (6, 27), (6, 29), (0, 55), (1, 13), (5, 17), (5, 19), (6, 31), (6, 27), (6, 29), (0, 55), (1, 13), (5, 197), (1, 13), (5, 196), (5, 199), (5, 201), (0, 40), (1, 13), (6, 32), (6, 34), (0, 56), (1, 13), (6, 27), (6, 29), (0, 55), (1, 13)] rfl (by decide +kernel)
set_option maxRecDepth 100000 in
theorem ck_M_compareOf : xok z_M_compareOf := xok_of (by decide +kernel) [(5, 236), (5, 17), (5, 17), (5, 17), (5, 17), (5, 17), (5, 17)] rfl (by decide +kernel)
set_option maxRecDepth 100000 in
theorem ck_M_betweenOf : xok z_M_betweenOf := xok_of (by decide +kernel) [(5, 217), (5, 17), (5, 17), (5, 17), (5, 17), (5, 218), (5, 220), (0, 44), (1, 13), (5, 226), (5, 228), (0, 46), (1, 13), (5, 233), (5, 235), (0, 47), (1, 13), (5, 197), (1, 13), (5, 196), (5, 199), (5, 201), (0, 40), (1, 13), (5, 17), (5, 19), (5, 237)] rfl (by decide +kernel)
set_option maxRecDepth 100000 in
theorem ck_M_behindOne : xok z_M_behindOne := xok_of (by decide +kernel) [(5, 213), (5, 214), (5, 216), (0, 43), (1, 13), (5, 222), (5, 224), (0, 45), (1, 13), (5, 22), (5, 231), (1, 13), (5, 230), (5, 238), (6, 0), (0, 48), (1, 13), (6, 6), (6, 8), (0, 50), (1, 13), (5, 25), (5, 17), (5, 197), (1, 13), (5, 196), (5, 199), (5, 201), (0, 40), (1, 13), (5, 238), (6, 0), (0, 48), (1, 13), (5, 23), (5, 23), (5, 24), (5, 24), (6, 2), (6, 4), (0, 49), (1, 13), (6, 10), (6, 12), (0, 51), (1, 13), (5, 17), (5, 226), (5, 228), (0, 46), (1, 13), (5, 17), (5, 238), (6, 0), (0, 48), (1, 13), (5, 22), (5, 25), (5, 170), (5, 172), (0, 36), (1, 13)] rfl (by decide +kernel)
set_option maxRecDepth 100000 in
theorem ck_M_parsed : xok z_M_parsed := xok_of (by decide +kernel) [(5, 209), (5, 23), (5, 25), (5, 25), (5, 210), (5, 212), (0, 42), (1, 13), (6, 14), (6, 16), (0, 52), (1, 13), (5, 222), (5, 224), (0, 45), (1, 13), (5, 226), (5, 228), (0, 46), (1, 13), (5, 238), (6, 0), (0, 48), (1, 13)] rfl (by decide +kernel)
set_option maxRecDepth 100000 in
theorem ck_M_isGotRight : xok z_M_isGotRight := xok_of (by decide +kernel) [(6, 26), (5, 15), (5, 16), (5, 16), (5, 174), (5, 176), (0, 37), (1, 13), (5, 16), (5, 174), (5, 176), (0, 37), (1, 13), (5, 16), (5, 174), (5, 176), (0, 37), (1, 13), (5, 16), (5, 174), (5, 176), (0, 37), (1, 13), (5, 16), (5, 174), (5, 176), (0, 37), (1, 13), (5, 16), (5, 174), (5, 176), (0, 37), (1, 13), (5, 16), (5, 174), (5, 176), (0, 37), (1, 13), (5, 16), (5, 174), (5, 176), (0, 37), (1, 13)] rfl (by decide +kernel)
set_option maxRecDepth 100000 in
theorem ck_M_nameOf : xok z_M_nameOf := xok_of (by decide +kernel) [(6, 21), (5, 17), (5, 19), (6, 22), (5, 19), (5, 194), (1, 13), (5, 193), (5, 19), (5, 197), (1, 13), (5, 196), (5, 194), (1, 13), (5, 193), (6, 23), (6, 25), (0, 54), (1, 13), (5, 19), (5, 194), (1, 13), (5, 193), (5, 19), (5, 194), (1, 13), (5, 193), (5, 19), (5, 204), (1, 13), (5, 203), (5, 19), (5, 204), (1, 13), (5, 203)] rfl (by decide +kernel)
set_option maxRecDepth 100000 in
theorem ck_M_sortOf : xok z_M_sortOf := xok_of (by decide +kernel) [(5, 192), (5, 194), (1, 13), (5, 193), (5, 199), (5, 201), (0, 40), (1, 13), (5, 194), (1, 13), (5, 193), (5, 199), (5, 201), (0, 40), (1, 13), (5, 204), (1, 13), (5, 203), (5, 199), (5, 201), (0, 40), (1, 13), (5, 194), (1, 13), (5, 193), (5, 199), (5, 201), (0, 40), (1, 13), (5, 194), (1, 13), (5, 193), (5, 199), (5, 201), (0, 40), (1, 13)] rfl (by decide +kernel)
set_option maxRecDepth 100000 in
theorem ck_M_clause : xok z_M_clause := xok_of (by decide +kernel) [(5, 188), (5, 189), (5, 191), (0, 39), (1, 13), (5, 26), (5, 10), (5, 20), (5, 26), (5, 26), (5, 170), (5, 172), (0, 36), (1, 13), (5, 20), (5, 10), (5, 10), (5, 21), (5, 206), (5, 208), (0, 41), (1, 13), (5, 10), (5, 21), (5, 10), (5, 20), (5, 17), (5, 170), (5, 172), (0, 36), (1, 13)] rfl (by decide +kernel)
set_option maxRecDepth 100000 in
theorem ck_M_readText : xok z_M_readText := xok_of (by decide +kernel) [(5, 169), (5, 7), (5, 20), (5, 10), (5, 20), (5, 21), (5, 24), (5, 26), (5, 15), (5, 170), (5, 172), (0, 36), (1, 13), (5, 17), (5, 185), (5, 187), (0, 38), (1, 13)] rfl (by decide +kernel)
set_option maxRecDepth 100000 in
theorem ck_M_text : xok z_M_text := xok_of (by decide +kernel) [(5, 165), (5, 7), (5, 166), (5, 168), (0, 35), (1, 13), (5, 13), (5, 13), (5, 16), (5, 14), (5, 12), (5, 13), (5, 7), (5, 7)] rfl (by decide +kernel)
set_option maxRecDepth 100000 in
theorem ck_M_fault : xok z_M_fault := xok_of (by decide +kernel) [(6, 39), (5, 13), (5, 14)] rfl (by decide +kernel)
set_option maxRecDepth 100000 in
theorem ck_M_by : xok z_M_by := xok_of (by decide +kernel) [(6, 43), (5, 7), (5, 136), (1, 13), (5, 135), (5, 7)] rfl (by decide +kernel)
set_option maxRecDepth 100000 in
theorem ck_M_clip : xok z_M_clip := xok_of (by decide +kernel) [(6, 105), (6, 106), (6, 106), (6, 107), (6, 107)] rfl (by decide +kernel)
set_option maxRecDepth 100000 in
theorem ck_M_two : xok z_M_two := xok_of (by decide +kernel) [(6, 102), (6, 104), (1, 13), (6, 103), (6, 104), (1, 13), (6, 103), (6, 104), (1, 13), (6, 103), (6, 104), (1, 13), (6, 103)] rfl (by decide +kernel)
set_option maxRecDepth 100000 in
theorem ck_M_isAsked : xok z_M_isAsked := xok_of (by decide +kernel) [(6, 110)] rfl (by decide +kernel)
set_option maxRecDepth 100000 in
theorem ck_M_work : xok z_M_work := xok_of (by decide +kernel) [(6, 99), (5, 7), (5, 7), (5, 10), (5, 10), (5, 10), (5, 10), (5, 28), (5, 27), (5, 28), (5, 28), (5, 28), (5, 28), (5, 28), (6, 101), (1, 13), (6, 100), (5, 29), (5, 28), (5, 28), (6, 109), (1, 13), (6, 108), (5, 29), (5, 29), (5, 28), (5, 29), (5, 28), (5, 28), (5, 29), (5, 29), (5, 29), (5, 29), (5, 29)] rfl (by decide +kernel)
set_option maxRecDepth 100000 in
theorem ck_M_clauses : xok z_M_clauses := xok_of (by decide +kernel) [(6, 91), (5, 7), (5, 10), (5, 7)] rfl (by decide +kernel)
set_option maxRecDepth 100000 in
theorem ck_M_sortAt : xok z_M_sortAt := xok_of (by decide +kernel) [(6, 95), (5, 10), (5, 7)] rfl (by decide +kernel)
