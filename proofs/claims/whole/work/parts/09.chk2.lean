/-! printed by gen.py: each method is as it is printed, and where its words stand -/
set_option maxRecDepth 100000 in
theorem ck_Tape_readChoice : xok z_Tape_readChoice := xok_of (by decide +kernel) [(3, 162), (3, 131), (3, 133), (0, 9), (1, 3), (3, 163), (3, 165), (0, 16), (1, 3), (1, 89), (3, 143), (3, 144), (3, 145), (1, 2), (3, 147), (3, 149), (0, 12), (1, 3), (3, 163), (3, 165), (0, 16), (1, 3), (1, 89), (3, 143), (3, 144), (3, 145), (1, 2), (1, 89), (3, 167), (3, 168), (3, 169), (1, 2), (3, 147), (3, 149), (0, 12), (1, 3), (3, 163), (3, 165), (0, 16), (1, 3), (1, 89), (3, 167), (3, 168), (3, 169), (1, 2), (1, 89), (3, 143), (3, 144), (3, 145), (1, 2)] rfl (by decide +kernel)
set_option maxRecDepth 100000 in
theorem ck_Tape_pair : xok z_Tape_pair := xok_of (by decide +kernel) [(3, 174), (1, 89), (3, 143), (3, 144), (3, 145), (1, 2)] rfl (by decide +kernel)
set_option maxRecDepth 100000 in
theorem ck_Tape_isPassed : xok z_Tape_isPassed := xok_of (by decide +kernel) [(3, 166), (1, 90), (3, 123), (3, 125), (0, 8), (1, 3), (3, 20), (3, 22), (0, 1), (1, 3)] rfl (by decide +kernel)
set_option maxRecDepth 100000 in
theorem ck_Tape_wrong : xok z_Tape_wrong := xok_of (by decide +kernel) [(3, 126), (1, 85), (1, 91), (1, 87)] rfl (by decide +kernel)
set_option maxRecDepth 100000 in
theorem ck_Tape_next : xok z_Tape_next := xok_of (by decide +kernel) [(3, 23), (1, 92), (1, 83), (1, 82), (1, 92), (1, 82), (1, 92), (1, 92), (1, 92), (1, 92), (1, 91), (1, 92), (1, 83), (1, 90), (1, 82), (1, 92), (3, 25), (1, 3), (3, 24), (1, 90), (3, 27), (3, 29), (0, 2), (1, 3), (1, 82), (1, 92), (3, 32), (1, 3), (3, 31), (3, 34), (3, 36), (0, 3), (1, 3), (1, 90), (3, 111), (3, 113), (0, 5), (1, 3), (1, 90)] rfl (by decide +kernel)
set_option maxRecDepth 100000 in
theorem ck_Tape_takeNumber : xok z_Tape_takeNumber := xok_of (by decide +kernel) [(3, 30), (1, 93), (1, 92), (1, 83), (1, 82), (1, 92), (3, 25), (1, 3), (3, 24), (1, 93), (1, 93), (1, 93), (1, 82), (1, 92), (1, 93), (1, 92), (1, 92)] rfl (by decide +kernel)
set_option maxRecDepth 100000 in
theorem ck_Tape_takeWord : xok z_Tape_takeWord := xok_of (by decide +kernel) [(3, 37), (1, 92), (1, 83), (1, 82), (1, 92), (3, 32), (1, 3), (3, 31), (1, 92), (1, 92), (3, 39), (1, 3), (3, 38), (3, 59), (3, 61), (0, 4), (1, 3)] rfl (by decide +kernel)
set_option maxRecDepth 100000 in
theorem ck_Tape_isSpelled : xok z_Tape_isSpelled := xok_of (by decide +kernel) [(3, 62), (1, 92), (1, 91), (3, 63), (3, 63), (1, 91), (1, 82), (1, 91), (3, 73)] rfl (by decide +kernel)
set_option maxRecDepth 100000 in
theorem ck_Tape_takeSign : xok z_Tape_takeSign := xok_of (by decide +kernel) [(3, 114), (1, 82), (1, 92), (1, 92), (1, 92), (1, 92), (1, 83), (1, 82), (1, 92), (1, 92), (1, 92)] rfl (by decide +kernel)
set_option maxRecDepth 100000 in
theorem ck_Tape_isDigit : xok z_Tape_isDigit := xok_of (by decide +kernel) [(3, 26)] rfl (by decide +kernel)
set_option maxRecDepth 100000 in
theorem ck_Tape_isLetter : xok z_Tape_isLetter := xok_of (by decide +kernel) [(3, 33)] rfl (by decide +kernel)
set_option maxRecDepth 100000 in
theorem ck_Tape_spelling : xok z_Tape_spelling := xok_of (by decide +kernel) [(3, 40)] rfl (by decide +kernel)
set_option maxRecDepth 100000 in
theorem ck_Text_init : xok z_Text_init := xok_of (by decide +kernel) [(1, 35), (1, 36), (1, 25), (1, 26), (1, 75), (1, 37), (1, 75), (1, 39), (1, 75), (1, 41), (1, 75), (1, 43), (1, 75), (1, 45), (1, 75), (1, 47), (1, 75), (1, 49)] rfl (by decide +kernel)
set_option maxRecDepth 100000 in
theorem ck_Text_clear : xok z_Text_clear := xok_of (by decide +kernel) [(3, 19), (1, 51), (1, 53)] rfl (by decide +kernel)
set_option maxRecDepth 100000 in
theorem ck_Text_add : xok z_Text_add := xok_of (by decide +kernel) [(3, 146), (1, 51), (1, 37), (1, 51), (1, 39), (1, 51), (1, 41), (1, 51), (1, 43), (1, 51), (1, 51), (1, 51), (1, 51)] rfl (by decide +kernel)
set_option maxRecDepth 100000 in
theorem ck_Text_skipFrom : xok z_Text_skipFrom := xok_of (by decide +kernel) [(3, 170), (1, 51), (1, 41)] rfl (by decide +kernel)
set_option maxRecDepth 100000 in
theorem ck_Text_addClause : xok z_Text_addClause := xok_of (by decide +kernel) [(3, 178), (1, 53), (1, 45), (1, 53), (1, 47), (1, 53), (1, 49), (1, 53), (1, 53), (1, 53)] rfl (by decide +kernel)
set_option maxRecDepth 100000 in
theorem ck_Text_clauseOf : xok z_Text_clauseOf := xok_of (by decide +kernel) [(3, 130), (1, 53), (1, 45)] rfl (by decide +kernel)
set_option maxRecDepth 100000 in
theorem ck_Tries_init : xok z_Tries_init := xok_of (by decide +kernel) [(1, 150), (1, 151), (1, 25), (1, 26), (1, 152), (1, 75), (1, 200), (1, 196), (1, 197), (1, 154), (1, 155), (1, 6), (1, 157), (1, 6), (1, 156), (1, 198), (1, 154), (1, 155), (1, 6), (1, 157), (1, 6), (1, 156), (1, 199)] rfl (by decide +kernel)
set_option maxRecDepth 100000 in
theorem ck_Tries_agreement : xok z_Tries_agreement := xok_of (by decide +kernel) [(4, 48), (1, 198), (4, 49), (3, 193), (3, 194), (1, 6), (1, 198), (4, 50), (4, 51), (4, 52), (1, 6), (1, 197), (1, 198), (4, 54), (4, 37), (4, 38), (1, 4), (1, 197), (1, 198), (4, 55), (3, 212), (3, 213), (1, 4)] rfl (by decide +kernel)
set_option maxRecDepth 100000 in
theorem ck_Tries_slipsTo : xok z_Tries_slipsTo := xok_of (by decide +kernel) [(4, 175), (1, 198), (4, 49), (3, 193), (3, 194), (1, 6), (1, 197), (1, 198), (4, 55), (3, 212), (3, 213), (1, 4), (1, 196), (4, 176), (4, 178), (0, 30), (1, 5), (1, 197), (1, 199), (4, 55), (3, 212), (3, 213), (1, 4), (1, 197), (1, 199), (4, 183), (4, 28), (4, 29), (1, 4)] rfl (by decide +kernel)
set_option maxRecDepth 100000 in
theorem ck_Tries_slip : xok z_Tries_slip := xok_of (by decide +kernel) [(4, 179), (1, 197), (4, 180), (4, 12), (4, 13), (1, 4), (1, 197), (4, 181), (4, 4), (4, 5), (1, 4), (1, 198), (1, 173), (1, 198), (1, 167), (1, 199), (1, 198), (4, 182), (3, 205), (3, 206), (1, 6), (1, 199), (1, 173), (1, 199), (1, 167)] rfl (by decide +kernel)
set_option maxRecDepth 100000 in
theorem ck_Tries_unlikeRows : xok z_Tries_unlikeRows := xok_of (by decide +kernel) [(4, 191), (2, 62), (1, 200), (4, 192), (4, 194), (0, 31), (1, 5), (1, 200), (1, 200), (4, 197), (1, 5), (4, 196)] rfl (by decide +kernel)
set_option maxRecDepth 100000 in
theorem ck_Tries_watch : xok z_Tries_watch := xok_of (by decide +kernel) [(4, 195), (1, 198), (4, 49), (3, 193), (3, 194), (1, 6), (1, 197), (1, 198), (4, 55), (3, 212), (3, 213), (1, 4), (1, 198), (1, 173), (1, 198), (1, 167), (1, 197), (4, 181), (4, 4), (4, 5), (1, 4)] rfl (by decide +kernel)
set_option maxRecDepth 100000 in
theorem ck_Tries_isSameRow : xok z_Tries_isSameRow := xok_of (by decide +kernel) [(4, 198)] rfl (by decide +kernel)
set_option maxRecDepth 100000 in
theorem ck_Whole_init : xok z_Whole_init := xok_of (by decide +kernel) [(2, 124), (2, 125), (1, 25), (1, 26), (2, 126), (2, 50), (1, 9), (2, 52), (1, 9), (2, 127), (2, 152), (2, 128), (1, 155), (1, 6), (1, 157), (1, 6), (2, 129), (2, 154), (2, 130), (2, 131), (1, 12), (2, 133), (1, 12), (2, 132), (2, 156), (2, 150), (2, 100), (1, 10), (2, 102), (1, 10), (2, 158)] rfl (by decide +kernel)
set_option maxRecDepth 100000 in
theorem ck_Whole_copyFrom : xok z_Whole_copyFrom := xok_of (by decide +kernel) [(4, 206), (2, 152), (2, 152), (4, 207), (4, 156), (4, 157), (1, 9), (2, 154), (2, 154), (4, 208), (3, 205), (3, 206), (1, 6), (2, 156), (2, 156), (4, 209), (4, 210), (4, 211), (1, 12), (2, 158), (2, 158), (4, 213), (4, 214), (4, 215), (1, 10), (2, 160), (2, 160)] rfl (by decide +kernel)
set_option maxRecDepth 100000 in
theorem ck_C_init : xok z_C_init := xok_of (by decide +kernel) [(1, 23), (1, 24), (1, 25), (1, 26), (1, 28), (1, 1), (1, 27), (2, 173), (1, 30), (2, 174), (2, 174), (1, 30), (1, 32), (1, 2), (1, 34), (1, 2), (1, 76), (1, 77), (1, 3), (1, 79), (1, 3), (2, 175), (1, 113), (1, 114), (1, 4), (2, 173), (2, 174), (1, 116), (1, 4), (1, 115), (2, 176), (1, 146), (1, 147), (1, 5), (2, 173), (2, 176), (1, 149), (1, 5), (1, 148), (2, 177), (1, 212), (1, 213), (1, 7), (2, 173), (2, 176), (1, 215), (1, 7), (1, 214), (2, 178), (2, 49), (2, 50), (1, 9), (2, 173), (2, 52), (1, 9), (2, 51), (2, 179), (2, 99), (2, 100), (1, 10), (2, 102), (1, 10), (2, 180), (2, 120), (2, 121), (1, 11), (2, 173), (2, 123), (1, 11), (2, 122), (2, 181), (2, 120), (2, 121), (1, 11), (2, 173), (2, 123), (1, 11), (2, 122), (2, 182), (2, 183), (2, 184)] rfl (by decide +kernel)
set_option maxRecDepth 100000 in
theorem ck_C_elder : xok z_C_elder := xok_of (by decide +kernel) [(2, 213), (2, 214), (2, 216), (0, 0), (1, 1), (2, 219), (1, 1), (2, 218), (2, 219), (1, 1), (2, 218), (2, 181), (2, 153), (2, 56), (2, 181), (2, 153), (2, 61)] rfl (by decide +kernel)
set_option maxRecDepth 100000 in
theorem ck_C_stuck : xok z_C_stuck := xok_of (by decide +kernel) [(2, 224), (2, 214), (2, 216), (0, 0), (1, 1), (2, 181), (2, 153), (2, 74)] rfl (by decide +kernel)
set_option maxRecDepth 100000 in
theorem ck_C_lies : xok z_C_lies := xok_of (by decide +kernel) [(2, 228), (2, 214), (2, 216), (0, 0), (1, 1), (2, 230), (1, 1), (2, 229), (2, 230), (1, 1), (2, 229), (2, 181), (2, 153), (2, 65), (2, 181), (2, 153), (2, 68), (2, 181), (2, 153), (2, 71)] rfl (by decide +kernel)
set_option maxRecDepth 100000 in
theorem ck_C_bar : xok z_C_bar := xok_of (by decide +kernel) [(2, 235), (2, 219), (1, 1), (2, 218), (2, 181), (2, 153), (2, 78)] rfl (by decide +kernel)
set_option maxRecDepth 100000 in
theorem ck_C_feed : xok z_C_feed := xok_of (by decide +kernel) [(2, 239), (2, 175), (1, 84), (2, 175), (3, 0), (3, 1), (3, 2), (1, 3), (2, 175), (3, 0), (3, 1), (3, 2), (1, 3), (2, 175), (3, 0), (3, 1), (3, 2), (1, 3), (2, 175), (3, 0), (3, 1), (3, 2), (1, 3), (2, 175), (3, 0), (3, 1), (3, 2), (1, 3), (2, 175), (1, 84)] rfl (by decide +kernel)
set_option maxRecDepth 100000 in
theorem ck_C_end : xok z_C_end := xok_of (by decide +kernel) [(3, 7), (2, 175), (1, 84), (2, 175), (1, 84)] rfl (by decide +kernel)
set_option maxRecDepth 100000 in
theorem ck_C_text : xok z_C_text := xok_of (by decide +kernel) [(3, 11), (2, 181), (2, 161), (2, 219), (1, 1), (2, 218), (2, 175), (2, 174), (3, 12), (3, 13), (3, 14), (1, 3), (2, 175), (1, 86), (2, 183), (2, 175), (1, 88), (2, 184), (2, 175), (1, 84), (2, 181), (2, 161)] rfl (by decide +kernel)
set_option maxRecDepth 100000 in
theorem ck_C_fault : xok z_C_fault := xok_of (by decide +kernel) [(3, 183), (2, 183), (2, 184)] rfl (by decide +kernel)
set_option maxRecDepth 100000 in
theorem ck_C_by : xok z_C_by := xok_of (by decide +kernel) [(3, 187), (2, 181), (2, 161), (2, 219), (1, 1), (2, 218), (2, 181), (2, 153), (2, 81)] rfl (by decide +kernel)
set_option maxRecDepth 100000 in
theorem ck_C_start : xok z_C_start := xok_of (by decide +kernel) [(3, 191), (2, 181), (2, 155), (1, 184), (2, 181), (2, 155), (2, 181), (2, 153), (3, 192), (3, 193), (3, 194), (1, 6), (2, 181), (2, 157), (2, 142)] rfl (by decide +kernel)
set_option maxRecDepth 100000 in
theorem ck_C_hours : xok z_C_hours := xok_of (by decide +kernel) [(3, 199), (2, 219), (1, 1), (2, 218), (2, 181), (2, 155), (1, 184), (2, 181), (2, 157), (2, 181), (2, 155), (3, 200), (3, 201), (3, 202), (1, 12), (2, 176), (2, 181), (2, 153), (2, 181), (2, 155), (3, 211), (3, 212), (3, 213), (1, 4), (2, 181), (2, 155), (1, 184)] rfl (by decide +kernel)
set_option maxRecDepth 100000 in
theorem ck_C_undo : xok z_C_undo := xok_of (by decide +kernel) [(4, 18), (2, 181), (2, 157), (2, 181), (2, 155), (4, 19), (4, 20), (4, 21), (1, 12), (2, 181), (2, 155), (1, 184)] rfl (by decide +kernel)
set_option maxRecDepth 100000 in
theorem ck_C_of : xok z_C_of := xok_of (by decide +kernel) [(4, 26), (2, 214), (2, 216), (0, 0), (1, 1), (2, 181), (2, 155), (1, 163), (2, 181), (2, 155), (1, 169), (2, 181), (2, 155), (1, 175), (2, 176), (2, 181), (2, 153), (2, 181), (2, 155), (4, 27), (4, 28), (4, 29), (1, 4), (2, 181), (2, 153), (2, 56), (2, 181), (2, 153), (2, 61), (2, 181), (2, 153), (2, 74)] rfl (by decide +kernel)
set_option maxRecDepth 100000 in
theorem ck_C_agree : xok z_C_agree := xok_of (by decide +kernel) [(4, 35), (2, 176), (2, 181), (2, 153), (2, 181), (2, 155), (4, 36), (4, 37), (4, 38), (1, 4)] rfl (by decide +kernel)
set_option maxRecDepth 100000 in
theorem ck_C_agrees : xok z_C_agrees := xok_of (by decide +kernel) [(4, 44), (2, 219), (1, 1), (2, 218), (2, 177), (2, 181), (2, 153), (4, 45), (4, 46), (4, 47), (1, 5)] rfl (by decide +kernel)
set_option maxRecDepth 100000 in
theorem ck_C_holds : xok z_C_holds := xok_of (by decide +kernel) [(4, 59), (4, 60), (4, 62), (0, 21), (1, 1), (2, 178), (2, 181), (2, 153), (2, 180), (4, 68), (4, 69), (4, 70), (1, 7), (2, 178), (2, 181), (2, 153), (4, 122), (4, 123), (4, 124), (1, 7)] rfl (by decide +kernel)
set_option maxRecDepth 100000 in
theorem ck_C_states : xok z_C_states := xok_of (by decide +kernel) [(4, 130), (4, 60), (4, 62), (0, 21), (1, 1), (2, 178), (2, 181), (2, 153), (2, 180), (4, 68), (4, 69), (4, 70), (1, 7), (2, 178), (2, 9), (1, 232)] rfl (by decide +kernel)
set_option maxRecDepth 100000 in
theorem ck_C_bad : xok z_C_bad := xok_of (by decide +kernel) [(4, 134), (4, 60), (4, 62), (0, 21), (1, 1), (2, 219), (1, 1), (2, 218), (2, 219), (1, 1), (2, 218), (2, 181), (2, 153), (4, 64), (4, 65), (4, 66), (1, 9), (2, 219), (1, 1), (2, 218), (2, 178), (2, 181), (2, 153), (2, 180), (4, 68), (4, 69), (4, 70), (1, 7), (2, 178), (2, 181), (2, 153), (4, 122), (4, 123), (4, 124), (1, 7), (2, 178), (4, 135), (4, 136), (4, 137), (1, 7)] rfl (by decide +kernel)
set_option maxRecDepth 100000 in
theorem ck_C_told : xok z_C_told := xok_of (by decide +kernel) [(4, 142), (2, 214), (2, 216), (0, 0), (1, 1), (2, 230), (1, 1), (2, 229), (2, 230), (1, 1), (2, 229), (2, 181), (2, 159), (4, 143), (4, 144), (4, 145), (1, 10), (2, 181), (2, 159), (2, 110)] rfl (by decide +kernel)
set_option maxRecDepth 100000 in
theorem ck_C_forget : xok z_C_forget := xok_of (by decide +kernel) [(4, 150), (2, 181), (2, 159), (2, 110), (2, 181), (2, 159), (2, 110)] rfl (by decide +kernel)
set_option maxRecDepth 100000 in
theorem ck_C_suspects : xok z_C_suspects := xok_of (by decide +kernel) [(4, 154), (2, 219), (1, 1), (2, 218), (2, 181), (2, 159), (2, 110), (2, 179), (2, 181), (2, 153), (4, 155), (4, 156), (4, 157), (1, 9), (2, 179), (4, 160), (4, 161), (4, 162), (1, 9), (4, 164), (4, 166), (0, 29), (1, 1), (2, 173), (2, 181), (2, 159), (2, 108), (2, 179), (2, 56), (2, 179), (2, 56), (4, 164), (4, 166), (0, 29), (1, 1), (2, 179), (2, 56)] rfl (by decide +kernel)
set_option maxRecDepth 100000 in
theorem ck_C_slips : xok z_C_slips := xok_of (by decide +kernel) [(4, 171), (2, 219), (1, 1), (2, 218), (2, 214), (2, 216), (0, 0), (1, 1), (2, 219), (1, 1), (2, 218), (2, 177), (2, 181), (2, 153), (4, 172), (4, 173), (4, 174), (1, 5)] rfl (by decide +kernel)
set_option maxRecDepth 100000 in
theorem ck_C_learns : xok z_C_learns := xok_of (by decide +kernel) [(4, 187), (2, 214), (2, 216), (0, 0), (1, 1), (2, 219), (1, 1), (2, 218), (2, 214), (2, 216), (0, 0), (1, 1), (2, 179), (2, 181), (2, 153), (4, 155), (4, 156), (4, 157), (1, 9), (2, 177), (2, 179), (4, 188), (4, 189), (4, 190), (1, 5)] rfl (by decide +kernel)
set_option maxRecDepth 100000 in
theorem ck_C_image : xok z_C_image := xok_of (by decide +kernel) [(4, 202), (2, 182), (2, 181), (4, 203), (4, 204), (4, 205), (1, 11), (2, 181), (2, 155), (1, 184)] rfl (by decide +kernel)
set_option maxRecDepth 100000 in
theorem ck_C_back : xok z_C_back := xok_of (by decide +kernel) [(4, 221), (2, 181), (2, 182), (4, 203), (4, 204), (4, 205), (1, 11), (2, 181), (2, 155), (1, 184)] rfl (by decide +kernel)
set_option maxRecDepth 100000 in
theorem ck_C_about : xok z_C_about := xok_of (by decide +kernel) [(4, 225), (2, 173), (2, 181), (2, 155), (1, 184), (2, 181), (2, 155), (1, 179), (2, 181), (2, 161), (2, 181), (2, 153), (2, 81), (2, 181), (2, 157), (2, 142), (2, 181), (2, 159), (2, 110), (2, 181), (2, 159), (2, 110), (2, 181), (2, 159), (2, 108), (2, 175), (1, 84), (2, 181), (2, 153), (4, 226), (4, 227), (4, 228), (1, 9)] rfl (by decide +kernel)
set_option maxRecDepth 100000 in
theorem ck_C_isRoom : xok z_C_isRoom := xok_of (by decide +kernel) [(2, 217), (2, 173)] rfl (by decide +kernel)
set_option maxRecDepth 100000 in
theorem ck_C_isRunAsked : xok z_C_isRunAsked := xok_of (by decide +kernel) [(4, 63), (2, 219), (1, 1), (2, 218), (2, 219), (1, 1), (2, 218), (2, 181), (2, 153), (4, 64), (4, 65), (4, 66), (1, 9)] rfl (by decide +kernel)
