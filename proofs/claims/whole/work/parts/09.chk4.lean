/-! printed by gen.py: each method is as it is printed, and where its words stand -/
set_option maxRecDepth 100000 in
theorem ck_M_sumOf : xok z_M_sumOf := xok_of (by decide +kernel) [(6, 87), (6, 88), (6, 90), (0, 66), (1, 13), (6, 92), (6, 94), (0, 67), (1, 13), (6, 96), (6, 98), (0, 68), (1, 13), (5, 28), (6, 112), (1, 13), (6, 111)] rfl (by decide +kernel)
set_option maxRecDepth 100000 in
theorem ck_M_pulls : xok z_M_pulls := xok_of (by decide +kernel) [(6, 117), (6, 88), (6, 90), (0, 66), (1, 13), (6, 92), (6, 94), (0, 67), (1, 13), (6, 96), (6, 98), (0, 68), (1, 13), (5, 29)] rfl (by decide +kernel)
set_option maxRecDepth 100000 in
theorem ck_M_asTold : xok z_M_asTold := xok_of (by decide +kernel) [(6, 55), (5, 30), (5, 7), (5, 31), (5, 7)] rfl (by decide +kernel)
set_option maxRecDepth 100000 in
theorem ck_M_name : xok z_M_name := xok_of (by decide +kernel) [(6, 83), (5, 27), (5, 27), (5, 27), (5, 27), (5, 27), (5, 27), (5, 27), (5, 30), (5, 27), (5, 9)] rfl (by decide +kernel)
set_option maxRecDepth 100000 in
theorem ck_M_says : xok z_M_says := xok_of (by decide +kernel) [(6, 129), (6, 80), (6, 82), (0, 64), (1, 13), (5, 27), (5, 27), (6, 84), (6, 86), (0, 65), (1, 13)] rfl (by decide +kernel)
set_option maxRecDepth 100000 in
theorem ck_M_areOne : xok z_M_areOne := xok_of (by decide +kernel) [(6, 137), (5, 9), (5, 31), (6, 126), (6, 128), (0, 70), (1, 13)] rfl (by decide +kernel)
set_option maxRecDepth 100000 in
theorem ck_M_put : xok z_M_put := xok_of (by decide +kernel) [(6, 75), (5, 7)] rfl (by decide +kernel)
set_option maxRecDepth 100000 in
theorem ck_M_write : xok z_M_write := xok_of (by decide +kernel) [(6, 67), (6, 68), (6, 70), (0, 61), (1, 13), (6, 72), (6, 74), (0, 62), (1, 13), (6, 76), (6, 78), (0, 63), (1, 13), (6, 72), (6, 74), (0, 62), (1, 13), (5, 7)] rfl (by decide +kernel)
set_option maxRecDepth 100000 in
theorem ck_M_go : xok z_M_go := xok_of (by decide +kernel) [(6, 63), (5, 9), (5, 31), (5, 7), (5, 7), (5, 7), (6, 64), (6, 66), (0, 60), (1, 13), (5, 31), (6, 80), (6, 82), (0, 64), (1, 13), (5, 27), (6, 84), (6, 86), (0, 65), (1, 13), (6, 84), (6, 86), (0, 65), (1, 13), (6, 84), (6, 86), (0, 65), (1, 13), (6, 114), (6, 116), (0, 69), (1, 13), (6, 64), (6, 66), (0, 60), (1, 13)] rfl (by decide +kernel)
set_option maxRecDepth 100000 in
theorem ck_M_goOn : xok z_M_goOn := xok_of (by decide +kernel) [(6, 149), (5, 32), (5, 32), (6, 60), (6, 62), (0, 59), (1, 13), (5, 32), (5, 32)] rfl (by decide +kernel)
set_option maxRecDepth 100000 in
theorem ck_M_start : xok z_M_start := xok_of (by decide +kernel) [(6, 47), (5, 7), (5, 7), (5, 7), (5, 0), (5, 2), (0, 32), (1, 13)] rfl (by decide +kernel)
set_option maxRecDepth 100000 in
theorem ck_M_keepHour : xok z_M_keepHour := xok_of (by decide +kernel) [(6, 59), (5, 7), (5, 7), (5, 7), (5, 7), (5, 7), (5, 7), (5, 7), (5, 7)] rfl (by decide +kernel)
set_option maxRecDepth 100000 in
theorem ck_M_hours : xok z_M_hours := xok_of (by decide +kernel) [(6, 51), (5, 136), (1, 13), (5, 135), (5, 7), (6, 52), (6, 54), (0, 57), (1, 13), (6, 56), (6, 58), (0, 58), (1, 13), (5, 7), (5, 32), (6, 60), (6, 62), (0, 59), (1, 13), (5, 7), (5, 32), (5, 7)] rfl (by decide +kernel)
set_option maxRecDepth 100000 in
theorem ck_M_undo : xok z_M_undo := xok_of (by decide +kernel) [(6, 121), (5, 7), (5, 7), (5, 7), (5, 7), (5, 7), (5, 7)] rfl (by decide +kernel)
set_option maxRecDepth 100000 in
theorem ck_M_of : xok z_M_of := xok_of (by decide +kernel) [(6, 125), (5, 131), (5, 133), (0, 33), (1, 13), (6, 52), (6, 54), (0, 57), (1, 13), (5, 7), (5, 7), (5, 7), (5, 7), (6, 126), (6, 128), (0, 70), (1, 13), (5, 7), (5, 7), (5, 7)] rfl (by decide +kernel)
set_option maxRecDepth 100000 in
theorem ck_M_agree : xok z_M_agree := xok_of (by decide +kernel) [(6, 133), (6, 52), (6, 54), (0, 57), (1, 13), (5, 7), (6, 134), (6, 136), (0, 71), (1, 13)] rfl (by decide +kernel)
set_option maxRecDepth 100000 in
theorem ck_M_notesIn : xok z_M_notesIn := xok_of (by decide +kernel) [(6, 145), (5, 9)] rfl (by decide +kernel)
set_option maxRecDepth 100000 in
theorem ck_M_agrees : xok z_M_agrees := xok_of (by decide +kernel) [(6, 141), (5, 136), (1, 13), (5, 135), (6, 52), (6, 54), (0, 57), (1, 13), (5, 32), (5, 0), (5, 2), (0, 32), (1, 13), (5, 32), (6, 142), (6, 144), (0, 72), (1, 13), (5, 32), (6, 134), (6, 136), (0, 71), (1, 13), (6, 146), (6, 148), (0, 73), (1, 13)] rfl (by decide +kernel)
set_option maxRecDepth 100000 in
theorem ck_M_stateAt : xok z_M_stateAt := xok_of (by decide +kernel) [(6, 180)] rfl (by decide +kernel)
set_option maxRecDepth 100000 in
theorem ck_M_sumOfRow : xok z_M_sumOfRow := xok_of (by decide +kernel) [(6, 195)] rfl (by decide +kernel)
set_option maxRecDepth 100000 in
theorem ck_M_isLike : xok z_M_isLike := xok_of (by decide +kernel) [(6, 203), (5, 33)] rfl (by decide +kernel)
set_option maxRecDepth 100000 in
theorem ck_M_isFound : xok z_M_isFound := xok_of (by decide +kernel) [(6, 199), (5, 38), (6, 179), (1, 13), (6, 178), (6, 200), (6, 202), (0, 84), (1, 13), (5, 37)] rfl (by decide +kernel)
set_option maxRecDepth 100000 in
theorem ck_M_doings : xok z_M_doings := xok_of (by decide +kernel) [(6, 177), (5, 41), (5, 41)] rfl (by decide +kernel)
set_option maxRecDepth 100000 in
theorem ck_M_partOf : xok z_M_partOf := xok_of (by decide +kernel) [(6, 192), (5, 41)] rfl (by decide +kernel)
set_option maxRecDepth 100000 in
theorem ck_M_doAs : xok z_M_doAs := xok_of (by decide +kernel) [(6, 188), (6, 189), (6, 191), (0, 82), (1, 13), (6, 189), (6, 191), (0, 82), (1, 13), (6, 189), (6, 191), (0, 82), (1, 13), (6, 64), (6, 66), (0, 60), (1, 13)] rfl (by decide +kernel)
set_option maxRecDepth 100000 in
theorem ck_M_doingOf : xok z_M_doingOf := xok_of (by decide +kernel) [(6, 184), (5, 40), (6, 174), (6, 176), (0, 79), (1, 13), (6, 174), (6, 176), (0, 79), (1, 13)] rfl (by decide +kernel)
set_option maxRecDepth 100000 in
theorem ck_M_findNext : xok z_M_findNext := xok_of (by decide +kernel) [(6, 173), (5, 38), (5, 34), (5, 40), (6, 174), (6, 176), (0, 79), (1, 13), (5, 34), (5, 33), (6, 179), (1, 13), (6, 178), (5, 42), (6, 60), (6, 62), (0, 59), (1, 13), (5, 43), (5, 42), (5, 40), (5, 39), (6, 181), (6, 183), (0, 80), (1, 13), (5, 43), (6, 185), (6, 187), (0, 81), (1, 13), (5, 43), (5, 7), (5, 43), (5, 7), (5, 43), (6, 194), (1, 13), (6, 193), (5, 43), (6, 196), (6, 198), (0, 83), (1, 13), (5, 34), (6, 204), (6, 206), (0, 85), (1, 13)] rfl (by decide +kernel)
set_option maxRecDepth 100000 in
theorem ck_M_add : xok z_M_add := xok_of (by decide +kernel) [(6, 207), (5, 34), (5, 33), (6, 179), (1, 13), (6, 178), (5, 43), (5, 35), (5, 36), (5, 37), (5, 38), (5, 38), (5, 34)] rfl (by decide +kernel)
set_option maxRecDepth 100000 in
theorem ck_M_beginRuns : xok z_M_beginRuns := xok_of (by decide +kernel) [(6, 169), (5, 33), (5, 0), (5, 2), (0, 32), (1, 13), (5, 33), (5, 34)] rfl (by decide +kernel)
set_option maxRecDepth 100000 in
theorem ck_M_liars : xok z_M_liars := xok_of (by decide +kernel) [(6, 161), (5, 9), (5, 7)] rfl (by decide +kernel)
set_option maxRecDepth 100000 in
theorem ck_M_areRuns : xok z_M_areRuns := xok_of (by decide +kernel) [(6, 157), (5, 136), (1, 13), (5, 135), (5, 136), (1, 13), (5, 135), (6, 158), (6, 160), (0, 75), (1, 13)] rfl (by decide +kernel)
set_option maxRecDepth 100000 in
theorem ck_M_findRuns : xok z_M_findRuns := xok_of (by decide +kernel) [(6, 165), (6, 52), (6, 54), (0, 57), (1, 13), (5, 41), (5, 40), (5, 9), (5, 31), (5, 39), (5, 40), (5, 40), (5, 40), (5, 31), (6, 166), (6, 168), (0, 77), (1, 13), (6, 170), (6, 172), (0, 78), (1, 13)] rfl (by decide +kernel)
set_option maxRecDepth 100000 in
theorem ck_M_firstBad : xok z_M_firstBad := xok_of (by decide +kernel) [(6, 211), (5, 34), (5, 33), (6, 179), (1, 13), (6, 178), (6, 134), (6, 136), (0, 71), (1, 13)] rfl (by decide +kernel)
set_option maxRecDepth 100000 in
theorem ck_M_holds : xok z_M_holds := xok_of (by decide +kernel) [(6, 153), (6, 154), (6, 156), (0, 74), (1, 13), (6, 162), (6, 164), (0, 76), (1, 13), (6, 208), (6, 210), (0, 86), (1, 13)] rfl (by decide +kernel)
set_option maxRecDepth 100000 in
theorem ck_M_states : xok z_M_states := xok_of (by decide +kernel) [(6, 215), (6, 154), (6, 156), (0, 74), (1, 13), (6, 162), (6, 164), (0, 76), (1, 13), (5, 34)] rfl (by decide +kernel)
set_option maxRecDepth 100000 in
theorem ck_M_bad : xok z_M_bad := xok_of (by decide +kernel) [(6, 219), (6, 154), (6, 156), (0, 74), (1, 13), (5, 136), (1, 13), (5, 135), (6, 158), (6, 160), (0, 75), (1, 13), (5, 136), (1, 13), (5, 135), (5, 136), (1, 13), (5, 135), (6, 162), (6, 164), (0, 76), (1, 13), (6, 208), (6, 210), (0, 86), (1, 13), (5, 35), (5, 36), (6, 181), (6, 183), (0, 80), (1, 13), (6, 189), (6, 191), (0, 82), (1, 13)] rfl (by decide +kernel)
set_option maxRecDepth 100000 in
theorem ck_M_told : xok z_M_told := xok_of (by decide +kernel) [(6, 223), (5, 131), (5, 133), (0, 33), (1, 13), (5, 136), (1, 13), (5, 135), (5, 136), (1, 13), (5, 135), (5, 7), (5, 7), (5, 7), (5, 7), (5, 7), (5, 7), (5, 7), (5, 7), (5, 7), (5, 7), (5, 7)] rfl (by decide +kernel)
set_option maxRecDepth 100000 in
theorem ck_M_forget : xok z_M_forget := xok_of (by decide +kernel) [(6, 227), (5, 7), (5, 7), (5, 7)] rfl (by decide +kernel)
set_option maxRecDepth 100000 in
theorem ck_M_canBe : xok z_M_canBe := xok_of (by decide +kernel) [(6, 235), (6, 52), (6, 54), (0, 57), (1, 13), (5, 9), (5, 31), (5, 31), (5, 41), (5, 40), (5, 31), (5, 39), (5, 40), (6, 166), (6, 168), (0, 77), (1, 13), (5, 7), (5, 7), (6, 170), (6, 172), (0, 78), (1, 13), (5, 34)] rfl (by decide +kernel)
set_option maxRecDepth 100000 in
theorem ck_M_suspects : xok z_M_suspects := xok_of (by decide +kernel) [(6, 231), (5, 136), (1, 13), (5, 135), (5, 7), (6, 232), (6, 234), (0, 87), (1, 13), (5, 9), (5, 7), (6, 232), (6, 234), (0, 87), (1, 13)] rfl (by decide +kernel)
set_option maxRecDepth 100000 in
theorem ck_M_isMore : xok z_M_isMore := xok_of (by decide +kernel) [(7, 7), (6, 68), (6, 70), (0, 61), (1, 13), (6, 76), (6, 78), (0, 63), (1, 13), (5, 32), (5, 32), (5, 32), (5, 32)] rfl (by decide +kernel)
set_option maxRecDepth 100000 in
theorem ck_M_isSlip : xok z_M_isSlip := xok_of (by decide +kernel) [(7, 3), (5, 32), (5, 0), (5, 2), (0, 32), (1, 13), (6, 146), (6, 148), (0, 73), (1, 13), (7, 4), (7, 6), (0, 89), (1, 13), (5, 32), (6, 126), (6, 128), (0, 70), (1, 13)] rfl (by decide +kernel)
set_option maxRecDepth 100000 in
theorem ck_M_slips : xok z_M_slips := xok_of (by decide +kernel) [(6, 239), (5, 136), (1, 13), (5, 135), (5, 131), (5, 133), (0, 33), (1, 13), (5, 136), (1, 13), (5, 135), (6, 52), (6, 54), (0, 57), (1, 13), (5, 9), (7, 0), (7, 2), (0, 88), (1, 13)] rfl (by decide +kernel)
set_option maxRecDepth 100000 in
theorem ck_M_watch : xok z_M_watch := xok_of (by decide +kernel) [(7, 15), (6, 146), (6, 148), (0, 73), (1, 13), (5, 44), (5, 32), (6, 76), (6, 78), (0, 63), (1, 13), (5, 44), (5, 32)] rfl (by decide +kernel)
set_option maxRecDepth 100000 in
theorem ck_M_sameSeen : xok z_M_sameSeen := xok_of (by decide +kernel) [(7, 19), (5, 44), (5, 44)] rfl (by decide +kernel)
set_option maxRecDepth 100000 in
theorem ck_M_learns : xok z_M_learns := xok_of (by decide +kernel) [(7, 11), (5, 131), (5, 133), (0, 33), (1, 13), (5, 136), (1, 13), (5, 135), (5, 131), (5, 133), (0, 33), (1, 13), (6, 52), (6, 54), (0, 57), (1, 13), (5, 32), (5, 0), (5, 2), (0, 32), (1, 13), (5, 32), (5, 30), (7, 12), (7, 14), (0, 90), (1, 13), (7, 16), (7, 18), (0, 91), (1, 13)] rfl (by decide +kernel)
set_option maxRecDepth 100000 in
theorem ck_M_image : xok z_M_image := xok_of (by decide +kernel) [(7, 23), (5, 7), (5, 8), (5, 5), (1, 13), (5, 4), (5, 7)] rfl (by decide +kernel)
set_option maxRecDepth 100000 in
theorem ck_M_back : xok z_M_back := xok_of (by decide +kernel) [(7, 27), (5, 8), (5, 7), (5, 5), (1, 13), (5, 4), (5, 7)] rfl (by decide +kernel)
set_option maxRecDepth 100000 in
theorem ck_M_barred : xok z_M_barred := xok_of (by decide +kernel) [(7, 35), (5, 7)] rfl (by decide +kernel)
set_option maxRecDepth 100000 in
theorem ck_M_about : xok z_M_about := xok_of (by decide +kernel) [(7, 31), (5, 9), (5, 7), (5, 7), (5, 7), (5, 7), (5, 7), (5, 7), (5, 7), (5, 12), (7, 32), (7, 34), (0, 92), (1, 13)] rfl (by decide +kernel)
set_option maxRecDepth 100000 in
theorem ck_Law_cell : xok z_Law_cell := xok_of (by decide +kernel) [(4, 232)] rfl (by decide +kernel)
theorem ck_Law_law : xchkM z_Law_law = true := by decide +kernel
set_option maxRecDepth 100000 in
theorem cw_Law_law : ∀ w ∈ z_Law_law.2.2.2.2.2.1.flatMap (fun b => b.1.flatMap (xwds z_Law_law.1.cls)), w ∈ zGood := xhint_mem _ [(1, 19), (1, 20), (1, 1), (4, 231), (1, 0), (4, 230), (1, 22), (1, 1), (1, 21), (4, 233), (4, 234), (1, 13), (4, 231), (1, 0), (4, 230), (4, 236), (1, 13), (4, 235), (2, 210), (2, 211), (2, 212), (1, 1), (5, 127), (5, 128), (5, 129), (1, 13), (2, 221), (2, 222), (2, 223), (1, 1), (5, 138), (5, 139), (5, 140), (1, 13), (2, 225), (2, 226), (2, 227), (1, 1), (5, 142), (5, 143), (5, 144), (1, 13), (2, 232), (2, 233), (2, 234), (1, 1), (5, 146), (5, 147), (5, 148), (1, 13), (2, 236), (2, 237), (2, 238), (1, 1), (5, 150), (5, 151), (5, 152), (1, 13), (3, 4), (3, 5), (3, 6), (1, 1), (5, 158), (5, 159), (5, 160), (1, 13), (3, 8), (3, 9), (3, 10), (1, 1), (5, 162), (5, 163), (5, 164), (1, 13), (3, 180), (3, 181), (3, 182), (1, 1), (6, 36), (6, 37), (6, 38), (1, 13), (3, 184), (3, 185), (3, 186), (1, 1), (6, 40), (6, 41), (6, 42), (1, 13), (3, 188), (3, 189), (3, 190), (1, 1), (6, 44), (6, 45), (6, 46), (1, 13), (3, 196), (3, 197), (3, 198), (1, 1), (6, 48), (6, 49), (6, 50), (1, 13), (4, 15), (4, 16), (4, 17), (1, 1), (6, 118), (6, 119), (6, 120), (1, 13), (4, 23), (4, 24), (4, 25), (1, 1), (6, 122), (6, 123), (6, 124), (1, 13), (4, 32), (4, 33), (4, 34), (1, 1), (6, 130), (6, 131), (6, 132), (1, 13), (4, 41), (4, 42), (4, 43), (1, 1), (6, 138), (6, 139), (6, 140), (1, 13), (4, 56), (4, 57), (4, 58), (1, 1), (6, 150), (6, 151), (6, 152), (1, 13), (4, 127), (4, 128), (4, 129), (1, 1), (6, 212), (6, 213), (6, 214), (1, 13), (4, 131), (4, 132), (4, 133), (1, 1), (6, 216), (6, 217), (6, 218), (1, 13), (4, 139), (4, 140), (4, 141), (1, 1), (6, 220), (6, 221), (6, 222), (1, 13), (4, 147), (4, 148), (4, 149), (1, 1), (6, 224), (6, 225), (6, 226), (1, 13), (4, 151), (4, 152), (4, 153), (1, 1), (6, 228), (6, 229), (6, 230), (1, 13), (4, 168), (4, 169), (4, 170), (1, 1), (6, 236), (6, 237), (6, 238), (1, 13), (4, 184), (4, 185), (4, 186), (1, 1), (7, 8), (7, 9), (7, 10), (1, 13), (4, 199), (4, 200), (4, 201), (1, 1), (7, 20), (7, 21), (7, 22), (1, 13), (4, 218), (4, 219), (4, 220), (1, 1), (7, 24), (7, 25), (7, 26), (1, 13), (4, 222), (4, 223), (4, 224), (1, 1), (7, 28), (7, 29), (7, 30), (1, 13)] rfl (by decide +kernel)
