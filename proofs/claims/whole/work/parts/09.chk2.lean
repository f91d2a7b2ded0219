/-! printed by gen.py: each method is as it is printed, and where its words stand -/
set_option maxRecDepth 100000 in
theorem ck_Tape_readChoice : xok z_Tape_readChoice := xok_of (by decide +kernel) [(3, 158), (3, 127), (3, 129), (0, 9), (1, 3), (3, 159), (3, 161), (0, 16), (1, 3), (1, 89), (3, 139), (3, 140), (3, 141), (1, 2), (3, 143), (3, 145), (0, 12), (1, 3), (3, 159), (3, 161), (0, 16), (1, 3), (1, 89), (3, 139), (3, 140), (3, 141), (1, 2), (1, 89), (3, 163), (3, 164), (3, 165), (1, 2), (3, 143), (3, 145), (0, 12), (1, 3), (3, 159), (3, 161), (0, 16), (1, 3), (1, 89), (3, 163), (3, 164), (3, 165), (1, 2), (1, 89), (3, 139), (3, 140), (3, 141), (1, 2)] rfl (by decide +kernel)
set_option maxRecDepth 100000 in
theorem ck_Tape_pair : xok z_Tape_pair := xok_of (by decide +kernel) [(3, 170), (1, 89), (3, 139), (3, 140), (3, 141), (1, 2)] rfl (by decide +kernel)
set_option maxRecDepth 100000 in
theorem ck_Tape_isPassed : xok z_Tape_isPassed := xok_of (by decide +kernel) [(3, 162), (1, 90), (3, 119), (3, 121), (0, 8), (1, 3), (3, 16), (3, 18), (0, 1), (1, 3)] rfl (by decide +kernel)
set_option maxRecDepth 100000 in
theorem ck_Tape_wrong : xok z_Tape_wrong := xok_of (by decide +kernel) [(3, 122), (1, 85), (1, 91), (1, 87)] rfl (by decide +kernel)
set_option maxRecDepth 100000 in
theorem ck_Tape_next : xok z_Tape_next := xok_of (by decide +kernel) [(3, 19), (1, 92), (1, 83), (1, 82), (1, 92), (1, 82), (1, 92), (1, 92), (1, 92), (1, 92), (1, 91), (1, 92), (1, 83), (1, 90), (1, 82), (1, 92), (3, 21), (1, 3), (3, 20), (1, 90), (3, 23), (3, 25), (0, 2), (1, 3), (1, 82), (1, 92), (3, 28), (1, 3), (3, 27), (3, 30), (3, 32), (0, 3), (1, 3), (1, 90), (3, 107), (3, 109), (0, 5), (1, 3), (1, 90)] rfl (by decide +kernel)
set_option maxRecDepth 100000 in
theorem ck_Tape_takeNumber : xok z_Tape_takeNumber := xok_of (by decide +kernel) [(3, 26), (1, 93), (1, 92), (1, 83), (1, 82), (1, 92), (3, 21), (1, 3), (3, 20), (1, 93), (1, 93), (1, 93), (1, 82), (1, 92), (1, 93), (1, 92), (1, 92)] rfl (by decide +kernel)
set_option maxRecDepth 100000 in
theorem ck_Tape_takeWord : xok z_Tape_takeWord := xok_of (by decide +kernel) [(3, 33), (1, 92), (1, 83), (1, 82), (1, 92), (3, 28), (1, 3), (3, 27), (1, 92), (1, 92), (3, 35), (1, 3), (3, 34), (3, 55), (3, 57), (0, 4), (1, 3)] rfl (by decide +kernel)
set_option maxRecDepth 100000 in
theorem ck_Tape_isSpelled : xok z_Tape_isSpelled := xok_of (by decide +kernel) [(3, 58), (1, 92), (1, 91), (3, 59), (3, 59), (1, 91), (1, 82), (1, 91), (3, 69)] rfl (by decide +kernel)
set_option maxRecDepth 100000 in
theorem ck_Tape_takeSign : xok z_Tape_takeSign := xok_of (by decide +kernel) [(3, 110), (1, 82), (1, 92), (1, 92), (1, 92), (1, 92), (1, 83), (1, 82), (1, 92), (1, 92), (1, 92)] rfl (by decide +kernel)
set_option maxRecDepth 100000 in
theorem ck_Tape_isDigit : xok z_Tape_isDigit := xok_of (by decide +kernel) [(3, 22)] rfl (by decide +kernel)
set_option maxRecDepth 100000 in
theorem ck_Tape_isLetter : xok z_Tape_isLetter := xok_of (by decide +kernel) [(3, 29)] rfl (by decide +kernel)
set_option maxRecDepth 100000 in
theorem ck_Tape_spelling : xok z_Tape_spelling := xok_of (by decide +kernel) [(3, 36)] rfl (by decide +kernel)
set_option maxRecDepth 100000 in
theorem ck_Text_init : xok z_Text_init := xok_of (by decide +kernel) [(1, 35), (1, 36), (1, 25), (1, 26), (1, 75), (1, 37), (1, 75), (1, 39), (1, 75), (1, 41), (1, 75), (1, 43), (1, 75), (1, 45), (1, 75), (1, 47), (1, 75), (1, 49)] rfl (by decide +kernel)
set_option maxRecDepth 100000 in
theorem ck_Text_clear : xok z_Text_clear := xok_of (by decide +kernel) [(3, 15), (1, 51), (1, 53)] rfl (by decide +kernel)
set_option maxRecDepth 100000 in
theorem ck_Text_add : xok z_Text_add := xok_of (by decide +kernel) [(3, 142), (1, 51), (1, 37), (1, 51), (1, 39), (1, 51), (1, 41), (1, 51), (1, 43), (1, 51), (1, 51), (1, 51), (1, 51)] rfl (by decide +kernel)
set_option maxRecDepth 100000 in
theorem ck_Text_skipFrom : xok z_Text_skipFrom := xok_of (by decide +kernel) [(3, 166), (1, 51), (1, 41)] rfl (by decide +kernel)
set_option maxRecDepth 100000 in
theorem ck_Text_addClause : xok z_Text_addClause := xok_of (by decide +kernel) [(3, 174), (1, 53), (1, 45), (1, 53), (1, 47), (1, 53), (1, 49), (1, 53), (1, 53), (1, 53)] rfl (by decide +kernel)
set_option maxRecDepth 100000 in
theorem ck_Text_clauseOf : xok z_Text_clauseOf := xok_of (by decide +kernel) [(3, 126), (1, 53), (1, 45)] rfl (by decide +kernel)
set_option maxRecDepth 100000 in
theorem ck_Tries_init : xok z_Tries_init := xok_of (by decide +kernel) [(1, 150), (1, 151), (1, 25), (1, 26), (1, 152), (1, 75), (1, 200), (1, 196), (1, 197), (1, 154), (1, 155), (1, 6), (1, 157), (1, 6), (1, 156), (1, 198), (1, 154), (1, 155), (1, 6), (1, 157), (1, 6), (1, 156), (1, 199)] rfl (by decide +kernel)
set_option maxRecDepth 100000 in
theorem ck_Tries_agreement : xok z_Tries_agreement := xok_of (by decide +kernel) [(4, 44), (1, 198), (4, 45), (3, 189), (3, 190), (1, 6), (1, 198), (4, 46), (4, 47), (4, 48), (1, 6), (1, 197), (1, 198), (4, 50), (4, 33), (4, 34), (1, 4), (1, 197), (1, 198), (4, 51), (3, 208), (3, 209), (1, 4)] rfl (by decide +kernel)
set_option maxRecDepth 100000 in
theorem ck_Tries_slipsTo : xok z_Tries_slipsTo := xok_of (by decide +kernel) [(4, 166), (1, 198), (4, 45), (3, 189), (3, 190), (1, 6), (1, 197), (1, 198), (4, 51), (3, 208), (3, 209), (1, 4), (1, 196), (4, 167), (4, 169), (0, 29), (1, 5), (1, 197), (1, 199), (4, 51), (3, 208), (3, 209), (1, 4), (1, 197), (1, 199), (4, 174), (4, 24), (4, 25), (1, 4)] rfl (by decide +kernel)
set_option maxRecDepth 100000 in
theorem ck_Tries_slip : xok z_Tries_slip := xok_of (by decide +kernel) [(4, 170), (1, 197), (4, 171), (4, 8), (4, 9), (1, 4), (1, 197), (4, 172), (4, 0), (4, 1), (1, 4), (1, 198), (1, 173), (1, 198), (1, 167), (1, 199), (1, 198), (4, 173), (3, 201), (3, 202), (1, 6), (1, 199), (1, 173), (1, 199), (1, 167)] rfl (by decide +kernel)
set_option maxRecDepth 100000 in
theorem ck_Tries_unlikeRows : xok z_Tries_unlikeRows := xok_of (by decide +kernel) [(4, 182), (2, 59), (1, 200), (4, 183), (4, 185), (0, 30), (1, 5), (1, 200), (1, 200), (4, 188), (1, 5), (4, 187)] rfl (by decide +kernel)
set_option maxRecDepth 100000 in
theorem ck_Tries_watch : xok z_Tries_watch := xok_of (by decide +kernel) [(4, 186), (1, 198), (4, 45), (3, 189), (3, 190), (1, 6), (1, 197), (1, 198), (4, 51), (3, 208), (3, 209), (1, 4), (1, 198), (1, 173), (1, 198), (1, 167), (1, 197), (4, 172), (4, 0), (4, 1), (1, 4)] rfl (by decide +kernel)
set_option maxRecDepth 100000 in
theorem ck_Tries_isSameRow : xok z_Tries_isSameRow := xok_of (by decide +kernel) [(4, 189)] rfl (by decide +kernel)
set_option maxRecDepth 100000 in
theorem ck_Whole_init : xok z_Whole_init := xok_of (by decide +kernel) [(2, 120), (2, 121), (1, 25), (1, 26), (2, 122), (2, 47), (1, 9), (2, 49), (1, 9), (2, 123), (2, 148), (2, 124), (1, 155), (1, 6), (1, 157), (1, 6), (2, 125), (2, 150), (2, 126), (2, 127), (1, 12), (2, 129), (1, 12), (2, 128), (2, 152), (2, 146), (2, 96), (1, 10), (2, 98), (1, 10), (2, 154)] rfl (by decide +kernel)
set_option maxRecDepth 100000 in
theorem ck_Whole_copyFrom : xok z_Whole_copyFrom := xok_of (by decide +kernel) [(4, 197), (2, 148), (2, 148), (4, 198), (4, 147), (4, 148), (1, 9), (2, 150), (2, 150), (4, 199), (3, 201), (3, 202), (1, 6), (2, 152), (2, 152), (4, 200), (4, 201), (4, 202), (1, 12), (2, 154), (2, 154), (4, 204), (4, 205), (4, 206), (1, 10), (2, 156), (2, 156)] rfl (by decide +kernel)
set_option maxRecDepth 100000 in
theorem ck_C_init : xok z_C_init := xok_of (by decide +kernel) [(1, 23), (1, 24), (1, 25), (1, 26), (1, 28), (1, 1), (1, 27), (2, 169), (1, 30), (2, 170), (2, 170), (1, 30), (1, 32), (1, 2), (1, 34), (1, 2), (1, 76), (1, 77), (1, 3), (1, 79), (1, 3), (2, 171), (1, 113), (1, 114), (1, 4), (2, 169), (2, 170), (1, 116), (1, 4), (1, 115), (2, 172), (1, 146), (1, 147), (1, 5), (2, 169), (2, 172), (1, 149), (1, 5), (1, 148), (2, 173), (1, 212), (1, 213), (1, 7), (2, 169), (2, 172), (1, 215), (1, 7), (1, 214), (2, 174), (2, 46), (2, 47), (1, 9), (2, 169), (2, 49), (1, 9), (2, 48), (2, 175), (2, 95), (2, 96), (1, 10), (2, 98), (1, 10), (2, 176), (2, 116), (2, 117), (1, 11), (2, 169), (2, 119), (1, 11), (2, 118), (2, 177), (2, 116), (2, 117), (1, 11), (2, 169), (2, 119), (1, 11), (2, 118), (2, 178), (2, 179), (2, 180)] rfl (by decide +kernel)
set_option maxRecDepth 100000 in
theorem ck_C_elder : xok z_C_elder := xok_of (by decide +kernel) [(2, 209), (2, 210), (2, 212), (0, 0), (1, 1), (2, 215), (1, 1), (2, 214), (2, 215), (1, 1), (2, 214), (2, 177), (2, 149), (2, 53), (2, 177), (2, 149), (2, 58)] rfl (by decide +kernel)
set_option maxRecDepth 100000 in
theorem ck_C_stuck : xok z_C_stuck := xok_of (by decide +kernel) [(2, 220), (2, 210), (2, 212), (0, 0), (1, 1), (2, 177), (2, 149), (2, 71)] rfl (by decide +kernel)
set_option maxRecDepth 100000 in
theorem ck_C_lies : xok z_C_lies := xok_of (by decide +kernel) [(2, 224), (2, 210), (2, 212), (0, 0), (1, 1), (2, 226), (1, 1), (2, 225), (2, 226), (1, 1), (2, 225), (2, 177), (2, 149), (2, 62), (2, 177), (2, 149), (2, 65), (2, 177), (2, 149), (2, 68)] rfl (by decide +kernel)
set_option maxRecDepth 100000 in
theorem ck_C_bar : xok z_C_bar := xok_of (by decide +kernel) [(2, 231), (2, 215), (1, 1), (2, 214), (2, 177), (2, 149), (2, 74)] rfl (by decide +kernel)
set_option maxRecDepth 100000 in
theorem ck_C_feed : xok z_C_feed := xok_of (by decide +kernel) [(2, 235), (2, 171), (1, 84), (2, 171), (2, 236), (2, 237), (2, 238), (1, 3), (2, 171), (2, 236), (2, 237), (2, 238), (1, 3), (2, 171), (2, 236), (2, 237), (2, 238), (1, 3), (2, 171), (2, 236), (2, 237), (2, 238), (1, 3), (2, 171), (2, 236), (2, 237), (2, 238), (1, 3), (2, 171), (1, 84)] rfl (by decide +kernel)
set_option maxRecDepth 100000 in
theorem ck_C_end : xok z_C_end := xok_of (by decide +kernel) [(3, 3), (2, 171), (1, 84), (2, 171), (1, 84)] rfl (by decide +kernel)
set_option maxRecDepth 100000 in
theorem ck_C_text : xok z_C_text := xok_of (by decide +kernel) [(3, 7), (2, 177), (2, 157), (2, 215), (1, 1), (2, 214), (2, 171), (2, 170), (3, 8), (3, 9), (3, 10), (1, 3), (2, 171), (1, 86), (2, 179), (2, 171), (1, 88), (2, 180), (2, 171), (1, 84), (2, 177), (2, 157)] rfl (by decide +kernel)
set_option maxRecDepth 100000 in
theorem ck_C_fault : xok z_C_fault := xok_of (by decide +kernel) [(3, 179), (2, 179), (2, 180)] rfl (by decide +kernel)
set_option maxRecDepth 100000 in
theorem ck_C_by : xok z_C_by := xok_of (by decide +kernel) [(3, 183), (2, 177), (2, 157), (2, 215), (1, 1), (2, 214), (2, 177), (2, 149), (2, 77)] rfl (by decide +kernel)
set_option maxRecDepth 100000 in
theorem ck_C_start : xok z_C_start := xok_of (by decide +kernel) [(3, 187), (2, 177), (2, 151), (1, 184), (2, 177), (2, 151), (2, 177), (2, 149), (3, 188), (3, 189), (3, 190), (1, 6), (2, 177), (2, 153), (2, 138)] rfl (by decide +kernel)
set_option maxRecDepth 100000 in
theorem ck_C_hours : xok z_C_hours := xok_of (by decide +kernel) [(3, 195), (2, 215), (1, 1), (2, 214), (2, 177), (2, 151), (1, 184), (2, 177), (2, 153), (2, 177), (2, 151), (3, 196), (3, 197), (3, 198), (1, 12), (2, 172), (2, 177), (2, 149), (2, 177), (2, 151), (3, 207), (3, 208), (3, 209), (1, 4), (2, 177), (2, 151), (1, 184)] rfl (by decide +kernel)
set_option maxRecDepth 100000 in
theorem ck_C_undo : xok z_C_undo := xok_of (by decide +kernel) [(4, 14), (2, 177), (2, 153), (2, 177), (2, 151), (4, 15), (4, 16), (4, 17), (1, 12), (2, 177), (2, 151), (1, 184)] rfl (by decide +kernel)
set_option maxRecDepth 100000 in
theorem ck_C_of : xok z_C_of := xok_of (by decide +kernel) [(4, 22), (2, 210), (2, 212), (0, 0), (1, 1), (2, 177), (2, 151), (1, 163), (2, 177), (2, 151), (1, 169), (2, 177), (2, 151), (1, 175), (2, 172), (2, 177), (2, 149), (2, 177), (2, 151), (4, 23), (4, 24), (4, 25), (1, 4), (2, 177), (2, 149), (2, 53), (2, 177), (2, 149), (2, 58), (2, 177), (2, 149), (2, 71)] rfl (by decide +kernel)
set_option maxRecDepth 100000 in
theorem ck_C_agree : xok z_C_agree := xok_of (by decide +kernel) [(4, 31), (2, 172), (2, 177), (2, 149), (2, 177), (2, 151), (4, 32), (4, 33), (4, 34), (1, 4)] rfl (by decide +kernel)
set_option maxRecDepth 100000 in
theorem ck_C_agrees : xok z_C_agrees := xok_of (by decide +kernel) [(4, 40), (2, 215), (1, 1), (2, 214), (2, 173), (2, 177), (2, 149), (4, 41), (4, 42), (4, 43), (1, 5)] rfl (by decide +kernel)
set_option maxRecDepth 100000 in
theorem ck_C_holds : xok z_C_holds := xok_of (by decide +kernel) [(4, 55), (4, 56), (4, 58), (0, 21), (1, 1), (2, 174), (2, 177), (2, 149), (2, 176), (4, 64), (4, 65), (4, 66), (1, 7), (2, 174), (2, 177), (2, 149), (4, 113), (4, 114), (4, 115), (1, 7)] rfl (by decide +kernel)
set_option maxRecDepth 100000 in
theorem ck_C_states : xok z_C_states := xok_of (by decide +kernel) [(4, 121), (4, 56), (4, 58), (0, 21), (1, 1), (2, 174), (2, 177), (2, 149), (2, 176), (4, 64), (4, 65), (4, 66), (1, 7), (2, 174), (2, 9), (1, 232)] rfl (by decide +kernel)
set_option maxRecDepth 100000 in
theorem ck_C_bad : xok z_C_bad := xok_of (by decide +kernel) [(4, 125), (4, 56), (4, 58), (0, 21), (1, 1), (2, 215), (1, 1), (2, 214), (2, 215), (1, 1), (2, 214), (2, 177), (2, 149), (4, 60), (4, 61), (4, 62), (1, 9), (2, 215), (1, 1), (2, 214), (2, 174), (2, 177), (2, 149), (2, 176), (4, 64), (4, 65), (4, 66), (1, 7), (2, 174), (2, 177), (2, 149), (4, 113), (4, 114), (4, 115), (1, 7), (2, 174), (4, 126), (4, 127), (4, 128), (1, 7)] rfl (by decide +kernel)
set_option maxRecDepth 100000 in
theorem ck_C_told : xok z_C_told := xok_of (by decide +kernel) [(4, 133), (2, 210), (2, 212), (0, 0), (1, 1), (2, 226), (1, 1), (2, 225), (2, 226), (1, 1), (2, 225), (2, 177), (2, 155), (4, 134), (4, 135), (4, 136), (1, 10), (2, 177), (2, 155), (2, 106)] rfl (by decide +kernel)
set_option maxRecDepth 100000 in
theorem ck_C_forget : xok z_C_forget := xok_of (by decide +kernel) [(4, 141), (2, 177), (2, 155), (2, 106), (2, 177), (2, 155), (2, 106)] rfl (by decide +kernel)
set_option maxRecDepth 100000 in
theorem ck_C_suspects : xok z_C_suspects := xok_of (by decide +kernel) [(4, 145), (2, 215), (1, 1), (2, 214), (2, 177), (2, 155), (2, 106), (2, 175), (2, 177), (2, 149), (4, 146), (4, 147), (4, 148), (1, 9), (2, 175), (4, 151), (4, 152), (4, 153), (1, 9), (4, 155), (4, 157), (0, 28), (1, 1), (2, 169), (2, 177), (2, 155), (2, 104), (2, 175), (2, 53), (2, 175), (2, 53), (4, 155), (4, 157), (0, 28), (1, 1), (2, 175), (2, 53)] rfl (by decide +kernel)
set_option maxRecDepth 100000 in
theorem ck_C_slips : xok z_C_slips := xok_of (by decide +kernel) [(4, 162), (2, 215), (1, 1), (2, 214), (2, 210), (2, 212), (0, 0), (1, 1), (2, 215), (1, 1), (2, 214), (2, 173), (2, 177), (2, 149), (4, 163), (4, 164), (4, 165), (1, 5)] rfl (by decide +kernel)
set_option maxRecDepth 100000 in
theorem ck_C_learns : xok z_C_learns := xok_of (by decide +kernel) [(4, 178), (2, 210), (2, 212), (0, 0), (1, 1), (2, 215), (1, 1), (2, 214), (2, 210), (2, 212), (0, 0), (1, 1), (2, 175), (2, 177), (2, 149), (4, 146), (4, 147), (4, 148), (1, 9), (2, 173), (2, 175), (4, 179), (4, 180), (4, 181), (1, 5)] rfl (by decide +kernel)
set_option maxRecDepth 100000 in
theorem ck_C_image : xok z_C_image := xok_of (by decide +kernel) [(4, 193), (2, 178), (2, 177), (4, 194), (4, 195), (4, 196), (1, 11), (2, 177), (2, 151), (1, 184)] rfl (by decide +kernel)
set_option maxRecDepth 100000 in
theorem ck_C_back : xok z_C_back := xok_of (by decide +kernel) [(4, 212), (2, 177), (2, 178), (4, 194), (4, 195), (4, 196), (1, 11), (2, 177), (2, 151), (1, 184)] rfl (by decide +kernel)
set_option maxRecDepth 100000 in
theorem ck_C_about : xok z_C_about := xok_of (by decide +kernel) [(4, 216), (2, 169), (2, 177), (2, 151), (1, 184), (2, 177), (2, 151), (1, 179), (2, 177), (2, 157), (2, 177), (2, 149), (2, 77), (2, 177), (2, 153), (2, 138), (2, 177), (2, 155), (2, 106), (2, 177), (2, 155), (2, 106), (2, 177), (2, 155), (2, 104), (2, 171), (1, 84), (2, 177), (2, 149), (4, 217), (4, 218), (4, 219), (1, 9)] rfl (by decide +kernel)
set_option maxRecDepth 100000 in
theorem ck_C_isRoom : xok z_C_isRoom := xok_of (by decide +kernel) [(2, 213), (2, 169)] rfl (by decide +kernel)
