/-! printed by gen.py: each method is as it is printed, and where its words stand -/
set_option maxRecDepth 100000 in
theorem ck_M_clauses : xok z_M_clauses := xok_of (by decide +kernel) [(6, 82), (4, 238), (5, 1), (4, 238)] rfl (by decide +kernel)
set_option maxRecDepth 100000 in
theorem ck_M_sortAt : xok z_M_sortAt := xok_of (by decide +kernel) [(6, 86), (5, 1), (4, 238)] rfl (by decide +kernel)
set_option maxRecDepth 100000 in
theorem ck_M_sumOf : xok z_M_sumOf := xok_of (by decide +kernel) [(6, 78), (6, 79), (6, 81), (0, 65), (1, 13), (6, 83), (6, 85), (0, 66), (1, 13), (6, 87), (6, 89), (0, 67), (1, 13), (5, 19), (6, 103), (1, 13), (6, 102)] rfl (by decide +kernel)
set_option maxRecDepth 100000 in
theorem ck_M_pulls : xok z_M_pulls := xok_of (by decide +kernel) [(6, 108), (6, 79), (6, 81), (0, 65), (1, 13), (6, 83), (6, 85), (0, 66), (1, 13), (6, 87), (6, 89), (0, 67), (1, 13), (5, 20)] rfl (by decide +kernel)
set_option maxRecDepth 100000 in
theorem ck_M_asTold : xok z_M_asTold := xok_of (by decide +kernel) [(6, 46), (5, 21), (4, 238), (5, 22), (4, 238)] rfl (by decide +kernel)
set_option maxRecDepth 100000 in
theorem ck_M_name : xok z_M_name := xok_of (by decide +kernel) [(6, 74), (5, 18), (5, 18), (5, 18), (5, 18), (5, 18), (5, 18), (5, 18), (5, 21), (5, 18), (5, 0)] rfl (by decide +kernel)
set_option maxRecDepth 100000 in
theorem ck_M_says : xok z_M_says := xok_of (by decide +kernel) [(6, 120), (6, 71), (6, 73), (0, 63), (1, 13), (5, 18), (5, 18), (6, 75), (6, 77), (0, 64), (1, 13)] rfl (by decide +kernel)
set_option maxRecDepth 100000 in
theorem ck_M_areOne : xok z_M_areOne := xok_of (by decide +kernel) [(6, 128), (5, 0), (5, 22), (6, 117), (6, 119), (0, 69), (1, 13)] rfl (by decide +kernel)
set_option maxRecDepth 100000 in
theorem ck_M_put : xok z_M_put := xok_of (by decide +kernel) [(6, 66), (4, 238)] rfl (by decide +kernel)
set_option maxRecDepth 100000 in
theorem ck_M_write : xok z_M_write := xok_of (by decide +kernel) [(6, 58), (6, 59), (6, 61), (0, 60), (1, 13), (6, 63), (6, 65), (0, 61), (1, 13), (6, 67), (6, 69), (0, 62), (1, 13), (6, 63), (6, 65), (0, 61), (1, 13), (4, 238)] rfl (by decide +kernel)
set_option maxRecDepth 100000 in
theorem ck_M_go : xok z_M_go := xok_of (by decide +kernel) [(6, 54), (5, 0), (5, 22), (4, 238), (4, 238), (4, 238), (6, 55), (6, 57), (0, 59), (1, 13), (5, 22), (6, 71), (6, 73), (0, 63), (1, 13), (5, 18), (6, 75), (6, 77), (0, 64), (1, 13), (6, 75), (6, 77), (0, 64), (1, 13), (6, 75), (6, 77), (0, 64), (1, 13), (6, 105), (6, 107), (0, 68), (1, 13), (6, 55), (6, 57), (0, 59), (1, 13)] rfl (by decide +kernel)
set_option maxRecDepth 100000 in
theorem ck_M_goOn : xok z_M_goOn := xok_of (by decide +kernel) [(6, 140), (5, 23), (5, 23), (6, 51), (6, 53), (0, 58), (1, 13), (5, 23), (5, 23)] rfl (by decide +kernel)
set_option maxRecDepth 100000 in
theorem ck_M_start : xok z_M_start := xok_of (by decide +kernel) [(6, 38), (4, 238), (4, 238), (4, 238), (4, 231), (4, 233), (0, 31), (1, 13)] rfl (by decide +kernel)
set_option maxRecDepth 100000 in
theorem ck_M_keepHour : xok z_M_keepHour := xok_of (by decide +kernel) [(6, 50), (4, 238), (4, 238), (4, 238), (4, 238), (4, 238), (4, 238), (4, 238), (4, 238)] rfl (by decide +kernel)
set_option maxRecDepth 100000 in
theorem ck_M_hours : xok z_M_hours := xok_of (by decide +kernel) [(6, 42), (5, 127), (1, 13), (5, 126), (4, 238), (6, 43), (6, 45), (0, 56), (1, 13), (6, 47), (6, 49), (0, 57), (1, 13), (4, 238), (5, 23), (6, 51), (6, 53), (0, 58), (1, 13), (4, 238), (5, 23), (4, 238)] rfl (by decide +kernel)
set_option maxRecDepth 100000 in
theorem ck_M_undo : xok z_M_undo := xok_of (by decide +kernel) [(6, 112), (4, 238), (4, 238), (4, 238), (4, 238), (4, 238), (4, 238)] rfl (by decide +kernel)
set_option maxRecDepth 100000 in
theorem ck_M_of : xok z_M_of := xok_of (by decide +kernel) [(6, 116), (5, 122), (5, 124), (0, 32), (1, 13), (6, 43), (6, 45), (0, 56), (1, 13), (4, 238), (4, 238), (4, 238), (4, 238), (6, 117), (6, 119), (0, 69), (1, 13), (4, 238), (4, 238), (4, 238)] rfl (by decide +kernel)
set_option maxRecDepth 100000 in
theorem ck_M_agree : xok z_M_agree := xok_of (by decide +kernel) [(6, 124), (6, 43), (6, 45), (0, 56), (1, 13), (4, 238), (6, 125), (6, 127), (0, 70), (1, 13)] rfl (by decide +kernel)
set_option maxRecDepth 100000 in
theorem ck_M_notesIn : xok z_M_notesIn := xok_of (by decide +kernel) [(6, 136), (5, 0)] rfl (by decide +kernel)
set_option maxRecDepth 100000 in
theorem ck_M_agrees : xok z_M_agrees := xok_of (by decide +kernel) [(6, 132), (5, 127), (1, 13), (5, 126), (6, 43), (6, 45), (0, 56), (1, 13), (5, 23), (4, 231), (4, 233), (0, 31), (1, 13), (5, 23), (6, 133), (6, 135), (0, 71), (1, 13), (5, 23), (6, 125), (6, 127), (0, 70), (1, 13), (6, 137), (6, 139), (0, 72), (1, 13)] rfl (by decide +kernel)
set_option maxRecDepth 100000 in
theorem ck_M_stateAt : xok z_M_stateAt := xok_of (by decide +kernel) [(6, 171)] rfl (by decide +kernel)
set_option maxRecDepth 100000 in
theorem ck_M_sumOfRow : xok z_M_sumOfRow := xok_of (by decide +kernel) [(6, 186)] rfl (by decide +kernel)
set_option maxRecDepth 100000 in
theorem ck_M_isLike : xok z_M_isLike := xok_of (by decide +kernel) [(6, 194), (5, 24)] rfl (by decide +kernel)
set_option maxRecDepth 100000 in
theorem ck_M_isFound : xok z_M_isFound := xok_of (by decide +kernel) [(6, 190), (5, 29), (6, 170), (1, 13), (6, 169), (6, 191), (6, 193), (0, 83), (1, 13), (5, 28)] rfl (by decide +kernel)
set_option maxRecDepth 100000 in
theorem ck_M_doings : xok z_M_doings := xok_of (by decide +kernel) [(6, 168), (5, 32), (5, 32)] rfl (by decide +kernel)
set_option maxRecDepth 100000 in
theorem ck_M_partOf : xok z_M_partOf := xok_of (by decide +kernel) [(6, 183), (5, 32)] rfl (by decide +kernel)
set_option maxRecDepth 100000 in
theorem ck_M_doAs : xok z_M_doAs := xok_of (by decide +kernel) [(6, 179), (6, 180), (6, 182), (0, 81), (1, 13), (6, 180), (6, 182), (0, 81), (1, 13), (6, 180), (6, 182), (0, 81), (1, 13), (6, 55), (6, 57), (0, 59), (1, 13)] rfl (by decide +kernel)
set_option maxRecDepth 100000 in
theorem ck_M_doingOf : xok z_M_doingOf := xok_of (by decide +kernel) [(6, 175), (5, 31), (6, 165), (6, 167), (0, 78), (1, 13), (6, 165), (6, 167), (0, 78), (1, 13)] rfl (by decide +kernel)
set_option maxRecDepth 100000 in
theorem ck_M_findNext : xok z_M_findNext := xok_of (by decide +kernel) [(6, 164), (5, 29), (5, 25), (5, 31), (6, 165), (6, 167), (0, 78), (1, 13), (5, 25), (5, 24), (6, 170), (1, 13), (6, 169), (5, 33), (6, 51), (6, 53), (0, 58), (1, 13), (5, 34), (5, 33), (5, 31), (5, 30), (6, 172), (6, 174), (0, 79), (1, 13), (5, 34), (6, 176), (6, 178), (0, 80), (1, 13), (5, 34), (4, 238), (5, 34), (4, 238), (5, 34), (6, 185), (1, 13), (6, 184), (5, 34), (6, 187), (6, 189), (0, 82), (1, 13), (5, 25), (6, 195), (6, 197), (0, 84), (1, 13)] rfl (by decide +kernel)
set_option maxRecDepth 100000 in
theorem ck_M_add : xok z_M_add := xok_of (by decide +kernel) [(6, 198), (5, 25), (5, 24), (6, 170), (1, 13), (6, 169), (5, 34), (5, 26), (5, 27), (5, 28), (5, 29), (5, 29), (5, 25)] rfl (by decide +kernel)
set_option maxRecDepth 100000 in
theorem ck_M_beginRuns : xok z_M_beginRuns := xok_of (by decide +kernel) [(6, 160), (5, 24), (4, 231), (4, 233), (0, 31), (1, 13), (5, 24), (5, 25)] rfl (by decide +kernel)
set_option maxRecDepth 100000 in
theorem ck_M_liars : xok z_M_liars := xok_of (by decide +kernel) [(6, 152), (5, 0), (4, 238)] rfl (by decide +kernel)
set_option maxRecDepth 100000 in
theorem ck_M_areRuns : xok z_M_areRuns := xok_of (by decide +kernel) [(6, 148), (5, 127), (1, 13), (5, 126), (5, 127), (1, 13), (5, 126), (6, 149), (6, 151), (0, 74), (1, 13)] rfl (by decide +kernel)
set_option maxRecDepth 100000 in
theorem ck_M_findRuns : xok z_M_findRuns := xok_of (by decide +kernel) [(6, 156), (6, 43), (6, 45), (0, 56), (1, 13), (5, 32), (5, 31), (5, 0), (5, 22), (5, 30), (5, 31), (5, 31), (5, 31), (5, 22), (6, 157), (6, 159), (0, 76), (1, 13), (6, 161), (6, 163), (0, 77), (1, 13)] rfl (by decide +kernel)
set_option maxRecDepth 100000 in
theorem ck_M_firstBad : xok z_M_firstBad := xok_of (by decide +kernel) [(6, 202), (5, 25), (5, 24), (6, 170), (1, 13), (6, 169), (6, 125), (6, 127), (0, 70), (1, 13)] rfl (by decide +kernel)
set_option maxRecDepth 100000 in
theorem ck_M_holds : xok z_M_holds := xok_of (by decide +kernel) [(6, 144), (6, 145), (6, 147), (0, 73), (1, 13), (6, 153), (6, 155), (0, 75), (1, 13), (6, 199), (6, 201), (0, 85), (1, 13)] rfl (by decide +kernel)
set_option maxRecDepth 100000 in
theorem ck_M_states : xok z_M_states := xok_of (by decide +kernel) [(6, 206), (6, 145), (6, 147), (0, 73), (1, 13), (6, 153), (6, 155), (0, 75), (1, 13), (5, 25)] rfl (by decide +kernel)
set_option maxRecDepth 100000 in
theorem ck_M_bad : xok z_M_bad := xok_of (by decide +kernel) [(6, 210), (6, 145), (6, 147), (0, 73), (1, 13), (5, 127), (1, 13), (5, 126), (6, 149), (6, 151), (0, 74), (1, 13), (5, 127), (1, 13), (5, 126), (5, 127), (1, 13), (5, 126), (6, 153), (6, 155), (0, 75), (1, 13), (6, 199), (6, 201), (0, 85), (1, 13), (5, 26), (5, 27), (6, 172), (6, 174), (0, 79), (1, 13), (6, 180), (6, 182), (0, 81), (1, 13)] rfl (by decide +kernel)
set_option maxRecDepth 100000 in
theorem ck_M_told : xok z_M_told := xok_of (by decide +kernel) [(6, 214), (5, 122), (5, 124), (0, 32), (1, 13), (5, 127), (1, 13), (5, 126), (5, 127), (1, 13), (5, 126), (4, 238), (4, 238), (4, 238), (4, 238), (4, 238), (4, 238), (4, 238), (4, 238), (4, 238), (4, 238), (4, 238)] rfl (by decide +kernel)
set_option maxRecDepth 100000 in
theorem ck_M_forget : xok z_M_forget := xok_of (by decide +kernel) [(6, 218), (4, 238), (4, 238), (4, 238)] rfl (by decide +kernel)
set_option maxRecDepth 100000 in
theorem ck_M_canBe : xok z_M_canBe := xok_of (by decide +kernel) [(6, 226), (6, 43), (6, 45), (0, 56), (1, 13), (5, 0), (5, 22), (5, 22), (5, 32), (5, 31), (5, 22), (5, 30), (5, 31), (6, 157), (6, 159), (0, 76), (1, 13), (4, 238), (4, 238), (6, 161), (6, 163), (0, 77), (1, 13), (5, 25)] rfl (by decide +kernel)
set_option maxRecDepth 100000 in
theorem ck_M_suspects : xok z_M_suspects := xok_of (by decide +kernel) [(6, 222), (5, 127), (1, 13), (5, 126), (4, 238), (6, 223), (6, 225), (0, 86), (1, 13), (5, 0), (4, 238), (6, 223), (6, 225), (0, 86), (1, 13)] rfl (by decide +kernel)
set_option maxRecDepth 100000 in
theorem ck_M_isMore : xok z_M_isMore := xok_of (by decide +kernel) [(6, 238), (6, 59), (6, 61), (0, 60), (1, 13), (6, 67), (6, 69), (0, 62), (1, 13), (5, 23), (5, 23), (5, 23), (5, 23)] rfl (by decide +kernel)
set_option maxRecDepth 100000 in
theorem ck_M_isSlip : xok z_M_isSlip := xok_of (by decide +kernel) [(6, 234), (5, 23), (4, 231), (4, 233), (0, 31), (1, 13), (6, 137), (6, 139), (0, 72), (1, 13), (6, 235), (6, 237), (0, 88), (1, 13), (5, 23), (6, 117), (6, 119), (0, 69), (1, 13)] rfl (by decide +kernel)
set_option maxRecDepth 100000 in
theorem ck_M_slips : xok z_M_slips := xok_of (by decide +kernel) [(6, 230), (5, 127), (1, 13), (5, 126), (5, 122), (5, 124), (0, 32), (1, 13), (5, 127), (1, 13), (5, 126), (6, 43), (6, 45), (0, 56), (1, 13), (5, 0), (6, 231), (6, 233), (0, 87), (1, 13)] rfl (by decide +kernel)
set_option maxRecDepth 100000 in
theorem ck_M_watch : xok z_M_watch := xok_of (by decide +kernel) [(7, 6), (6, 137), (6, 139), (0, 72), (1, 13), (5, 35), (5, 23), (6, 67), (6, 69), (0, 62), (1, 13), (5, 35), (5, 23)] rfl (by decide +kernel)
set_option maxRecDepth 100000 in
theorem ck_M_sameSeen : xok z_M_sameSeen := xok_of (by decide +kernel) [(7, 10), (5, 35), (5, 35)] rfl (by decide +kernel)
set_option maxRecDepth 100000 in
theorem ck_M_learns : xok z_M_learns := xok_of (by decide +kernel) [(7, 2), (5, 122), (5, 124), (0, 32), (1, 13), (5, 127), (1, 13), (5, 126), (5, 122), (5, 124), (0, 32), (1, 13), (6, 43), (6, 45), (0, 56), (1, 13), (5, 23), (4, 231), (4, 233), (0, 31), (1, 13), (5, 23), (5, 21), (7, 3), (7, 5), (0, 89), (1, 13), (7, 7), (7, 9), (0, 90), (1, 13)] rfl (by decide +kernel)
set_option maxRecDepth 100000 in
theorem ck_M_image : xok z_M_image := xok_of (by decide +kernel) [(7, 14), (4, 238), (4, 239), (4, 236), (1, 13), (4, 235), (4, 238)] rfl (by decide +kernel)
set_option maxRecDepth 100000 in
theorem ck_M_back : xok z_M_back := xok_of (by decide +kernel) [(7, 18), (4, 239), (4, 238), (4, 236), (1, 13), (4, 235), (4, 238)] rfl (by decide +kernel)
set_option maxRecDepth 100000 in
theorem ck_M_barred : xok z_M_barred := xok_of (by decide +kernel) [(7, 26), (4, 238)] rfl (by decide +kernel)
set_option maxRecDepth 100000 in
theorem ck_M_about : xok z_M_about := xok_of (by decide +kernel) [(7, 22), (5, 0), (4, 238), (4, 238), (4, 238), (4, 238), (4, 238), (4, 238), (4, 238), (5, 3), (7, 23), (7, 25), (0, 91), (1, 13)] rfl (by decide +kernel)
set_option maxRecDepth 100000 in
theorem ck_Law_cell : xok z_Law_cell := xok_of (by decide +kernel) [(4, 223)] rfl (by decide +kernel)
theorem ck_Law_law : xchkM z_Law_law = true := by decide +kernel
set_option maxRecDepth 100000 in
theorem cw_Law_law : ∀ w ∈ z_Law_law.2.2.2.2.2.1.flatMap (fun b => b.1.flatMap (xwds z_Law_law.1.cls)), w ∈ zGood := xhint_mem _ [(1, 19), (1, 20), (1, 1), (4, 222), (1, 0), (4, 221), (1, 22), (1, 1), (1, 21), (4, 224), (4, 225), (1, 13), (4, 222), (1, 0), (4, 221), (4, 227), (1, 13), (4, 226), (2, 206), (2, 207), (2, 208), (1, 1), (5, 118), (5, 119), (5, 120), (1, 13), (2, 217), (2, 218), (2, 219), (1, 1), (5, 129), (5, 130), (5, 131), (1, 13), (2, 221), (2, 222), (2, 223), (1, 1), (5, 133), (5, 134), (5, 135), (1, 13), (2, 228), (2, 229), (2, 230), (1, 1), (5, 137), (5, 138), (5, 139), (1, 13), (2, 232), (2, 233), (2, 234), (1, 1), (5, 141), (5, 142), (5, 143), (1, 13), (3, 0), (3, 1), (3, 2), (1, 1), (5, 149), (5, 150), (5, 151), (1, 13), (3, 4), (3, 5), (3, 6), (1, 1), (5, 153), (5, 154), (5, 155), (1, 13), (3, 176), (3, 177), (3, 178), (1, 1), (6, 27), (6, 28), (6, 29), (1, 13), (3, 180), (3, 181), (3, 182), (1, 1), (6, 31), (6, 32), (6, 33), (1, 13), (3, 184), (3, 185), (3, 186), (1, 1), (6, 35), (6, 36), (6, 37), (1, 13), (3, 192), (3, 193), (3, 194), (1, 1), (6, 39), (6, 40), (6, 41), (1, 13), (4, 11), (4, 12), (4, 13), (1, 1), (6, 109), (6, 110), (6, 111), (1, 13), (4, 19), (4, 20), (4, 21), (1, 1), (6, 113), (6, 114), (6, 115), (1, 13), (4, 28), (4, 29), (4, 30), (1, 1), (6, 121), (6, 122), (6, 123), (1, 13), (4, 37), (4, 38), (4, 39), (1, 1), (6, 129), (6, 130), (6, 131), (1, 13), (4, 52), (4, 53), (4, 54), (1, 1), (6, 141), (6, 142), (6, 143), (1, 13), (4, 118), (4, 119), (4, 120), (1, 1), (6, 203), (6, 204), (6, 205), (1, 13), (4, 122), (4, 123), (4, 124), (1, 1), (6, 207), (6, 208), (6, 209), (1, 13), (4, 130), (4, 131), (4, 132), (1, 1), (6, 211), (6, 212), (6, 213), (1, 13), (4, 138), (4, 139), (4, 140), (1, 1), (6, 215), (6, 216), (6, 217), (1, 13), (4, 142), (4, 143), (4, 144), (1, 1), (6, 219), (6, 220), (6, 221), (1, 13), (4, 159), (4, 160), (4, 161), (1, 1), (6, 227), (6, 228), (6, 229), (1, 13), (4, 175), (4, 176), (4, 177), (1, 1), (6, 239), (7, 0), (7, 1), (1, 13), (4, 190), (4, 191), (4, 192), (1, 1), (7, 11), (7, 12), (7, 13), (1, 13), (4, 209), (4, 210), (4, 211), (1, 1), (7, 15), (7, 16), (7, 17), (1, 13), (4, 213), (4, 214), (4, 215), (1, 1), (7, 19), (7, 20), (7, 21), (1, 13)] rfl (by decide +kernel)
