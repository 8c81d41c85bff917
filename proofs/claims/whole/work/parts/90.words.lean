/-- the pieces of the Statement's words -/
def ww_t : Nat → List Cond
  | 0 => k2_sels lw_privs
  | 1 => tables_1_1
  | 2 => tables_1_2
  | 3 => tables_1_3
  | 4 => tables_1_4
  | _ => tables_1_5
theorem ww_in : ∀ (k : Nat) (w : Cond), w ∈ ww_t k → w ∈ lw_tbl := by
  intro k w h
  show w ∈ k2_sels lw_privs ++ (tables_1_1 ++ (tables_1_2 ++ (tables_1_3 ++ (tables_1_4 ++ tables_1_5))))
  match k, h with
  | 0, h => exact List.mem_append_left _ h
  | 1, h => exact List.mem_append_right _ (List.mem_append_left _ h)
  | 2, h => exact List.mem_append_right _ (List.mem_append_right _ (List.mem_append_left _ h))
  | 3, h => exact List.mem_append_right _ (List.mem_append_right _ (List.mem_append_right _ (List.mem_append_left _ h)))
  | 4, h => exact List.mem_append_right _ (List.mem_append_right _ (List.mem_append_right _ (List.mem_append_right _ (List.mem_append_left _ h))))
  | _ + 5, h => exact List.mem_append_right _ (List.mem_append_right _ (List.mem_append_right _ (List.mem_append_right _ (List.mem_append_right _ h))))
theorem ww_of (ws : List Cond) (ps : List (Nat × Nat)) (hp : ws = ps.filterMap (fun i => (ww_t i.1)[i.2]?)) : ∀ w ∈ ws, w ∈ lw_tbl := by
  intro w hw
  rw [hp] at hw
  obtain ⟨i, -, hi⟩ := List.mem_filterMap.mp hw
  exact ww_in i.1 w (List.mem_of_getElem? hi)
set_option maxRecDepth 20000 in
theorem ww_w_r1 : ∀ w ∈ wsL_law_r1, w ∈ lw_tbl := ww_of _ [(1, 19), (1, 20), (1, 1), (4, 131), (4, 132), (1, 11), (1, 21), (1, 22), (1, 23), (1, 24), (1, 25), (1, 26), (1, 27), (1, 28), (1, 2), (2, 38), (1, 80), (1, 81), (1, 4), (2, 39), (1, 233), (1, 234), (1, 8), (2, 40)] (by decide +kernel)
set_option maxRecDepth 20000 in
theorem ww_w_r2 : ∀ w ∈ wsL_law_r2, w ∈ lw_tbl := ww_of _ [(2, 13), (2, 14), (1, 9), (2, 41), (2, 36), (1, 87), (1, 5), (2, 42), (1, 30), (1, 31), (1, 32), (1, 33), (1, 34), (1, 3), (1, 49), (1, 53), (1, 36), (1, 37), (1, 38), (1, 48), (1, 39), (1, 82), (1, 83), (1, 84)] (by decide +kernel)
set_option maxRecDepth 20000 in
theorem ww_w_r3 : ∀ w ∈ wsL_law_r3, w ∈ lw_tbl := ww_of _ [(1, 85), (1, 86), (1, 221), (1, 223), (1, 232), (1, 224), (1, 88), (1, 89), (1, 90), (1, 91), (1, 92), (1, 93), (1, 6), (1, 173), (1, 111), (1, 176), (1, 177), (1, 178), (1, 113), (1, 7), (1, 95), (1, 96), (1, 97), (1, 98)] (by decide +kernel)
set_option maxRecDepth 20000 in
theorem ww_w_r4 : ∀ w ∈ wsL_law_r4, w ∈ lw_tbl := ww_of _ [(1, 99), (1, 115), (1, 116), (1, 117), (1, 235), (1, 236), (1, 237), (1, 238), (1, 239), (2, 2), (2, 1), (2, 16), (2, 17), (2, 18), (2, 19), (2, 20), (1, 10), (2, 29), (2, 30), (2, 22), (2, 23), (2, 24), (2, 25), (2, 37)] (by decide +kernel)
set_option maxRecDepth 20000 in
theorem ww_w_r5 : ∀ w ∈ wsL_law_r5, w ∈ lw_tbl := ww_of _ [(4, 133), (4, 134), (4, 135), (4, 136), (4, 137), (4, 138), (4, 140), (4, 142), (4, 143), (4, 144), (4, 145), (2, 54), (2, 55), (2, 56), (2, 57), (2, 61), (2, 66), (2, 58), (2, 59), (2, 60), (2, 62), (2, 63), (2, 64), (2, 65)] (by decide +kernel)
set_option maxRecDepth 20000 in
theorem ww_w_r6 : ∀ w ∈ wsL_law_r6, w ∈ lw_tbl := ww_of _ [(1, 100), (2, 67), (2, 68), (2, 69), (2, 70), (2, 4), (2, 3), (2, 71), (2, 73), (0, 0), (2, 74), (2, 75), (2, 76), (2, 77), (2, 78), (2, 79), (2, 80), (2, 81), (2, 82), (1, 180), (1, 182), (1, 184), (1, 186), (1, 188)] (by decide +kernel)
set_option maxRecDepth 20000 in
theorem ww_w_r7 : ∀ w ∈ wsL_law_r7, w ∈ lw_tbl := ww_of _ [(1, 190), (1, 192), (1, 194), (2, 83), (2, 84), (2, 85), (2, 86), (2, 87), (2, 89), (2, 88), (1, 12), (2, 90), (2, 91), (2, 92), (2, 93), (1, 118), (1, 121), (1, 124), (1, 126), (1, 129), (1, 132), (1, 134), (1, 136), (1, 139)] (by decide +kernel)
set_option maxRecDepth 20000 in
theorem ww_w_r8 : ∀ w ∈ wsL_law_r8, w ∈ lw_tbl := ww_of _ [(1, 142), (1, 145), (2, 94), (2, 95), (2, 96), (2, 97), (2, 98), (2, 99), (2, 100), (2, 101), (2, 102), (2, 103), (2, 104), (2, 105), (2, 106), (2, 108), (0, 1), (2, 109), (2, 110), (2, 111), (2, 112), (2, 113), (2, 114), (2, 115)] (by decide +kernel)
set_option maxRecDepth 20000 in
theorem ww_w_r9 : ∀ w ∈ wsL_law_r9, w ∈ lw_tbl := ww_of _ [(2, 116), (2, 117), (2, 118), (2, 119), (2, 120), (2, 121), (2, 122), (2, 123), (2, 124), (4, 192), (4, 193), (4, 194), (4, 195), (4, 199), (4, 200), (4, 196), (4, 197), (4, 198), (4, 201), (4, 203), (0, 22), (4, 204), (4, 139), (4, 205)] (by decide +kernel)
set_option maxRecDepth 20000 in
theorem ww_w_r10 : ∀ w ∈ wsL_law_r10, w ∈ lw_tbl := ww_of _ [(4, 206), (4, 207), (2, 125), (2, 126), (2, 127), (2, 128), (2, 129), (2, 130), (2, 131), (2, 132), (1, 52), (1, 55), (1, 57), (1, 59), (1, 61), (2, 133), (2, 135), (0, 2), (2, 136), (2, 137), (2, 139), (0, 3), (2, 140), (1, 51)] (by decide +kernel)
set_option maxRecDepth 20000 in
theorem ww_w_r11 : ∀ w ∈ wsL_law_r11, w ∈ lw_tbl := ww_of _ [(2, 141), (2, 142), (2, 143), (2, 144), (1, 40), (2, 145), (2, 146), (2, 147), (2, 148), (2, 149), (2, 150), (2, 151), (2, 152), (2, 153), (2, 154), (2, 155), (2, 156), (2, 162), (2, 164), (0, 4), (2, 165), (2, 166), (2, 167), (2, 168)] (by decide +kernel)
set_option maxRecDepth 20000 in
theorem ww_w_r12 : ∀ w ∈ wsL_law_r12, w ∈ lw_tbl := ww_of _ [(1, 13), (2, 169), (5, 190), (2, 170), (2, 171), (2, 172), (2, 173), (2, 174), (5, 191), (2, 176), (2, 177), (2, 178), (2, 179), (2, 180), (2, 181), (2, 182), (2, 183), (2, 184), (2, 185), (1, 14), (2, 186), (2, 187), (2, 188), (2, 189)] (by decide +kernel)
set_option maxRecDepth 20000 in
theorem ww_w_r13 : ∀ w ∈ wsL_law_r13, w ∈ lw_tbl := ww_of _ [(2, 190), (2, 192), (2, 193), (1, 15), (2, 194), (2, 195), (2, 196), (1, 16), (2, 197), (2, 198), (2, 199), (2, 200), (2, 201), (2, 202), (2, 203), (2, 204), (2, 205), (2, 206), (2, 207), (2, 208), (2, 210), (2, 212), (2, 214), (2, 216)] (by decide +kernel)
set_option maxRecDepth 20000 in
theorem ww_w_r14 : ∀ w ∈ wsL_law_r14, w ∈ lw_tbl := ww_of _ [(0, 5), (2, 217), (2, 218), (2, 220), (0, 6), (2, 221), (2, 224), (2, 226), (0, 7), (2, 227), (2, 228), (2, 230), (0, 8), (2, 231), (2, 233), (2, 235), (0, 9), (2, 236), (2, 237), (2, 238), (2, 239), (3, 0), (3, 1), (3, 2)] (by decide +kernel)
set_option maxRecDepth 20000 in
theorem ww_w_r15 : ∀ w ∈ wsL_law_r15, w ∈ lw_tbl := ww_of _ [(3, 3), (3, 4), (3, 5), (3, 6), (3, 7), (3, 8), (3, 9), (3, 10), (3, 11), (3, 12), (3, 13), (3, 14), (3, 15), (3, 16), (3, 17), (3, 18), (3, 19), (3, 21), (0, 10), (3, 22), (3, 23), (3, 24), (3, 25), (3, 26)] (by decide +kernel)
set_option maxRecDepth 20000 in
theorem ww_w_r16 : ∀ w ∈ wsL_law_r16, w ∈ lw_tbl := ww_of _ [(3, 27), (3, 29), (3, 30), (3, 31), (3, 32), (3, 33), (3, 34), (3, 35), (3, 36), (3, 37), (3, 38), (3, 39), (3, 40), (5, 85), (5, 86), (5, 87), (5, 88), (4, 150), (4, 151), (4, 153), (4, 154), (4, 141), (4, 152), (5, 89)] (by decide +kernel)
set_option maxRecDepth 20000 in
theorem ww_w_r17 : ∀ w ∈ wsL_law_r17, w ∈ lw_tbl := ww_of _ [(5, 91), (0, 37), (5, 92), (4, 148), (5, 93), (5, 95), (0, 38), (5, 96), (4, 149), (5, 97), (5, 99), (0, 39), (5, 100), (5, 101), (5, 103), (0, 40), (5, 104), (5, 105), (5, 107), (0, 41), (5, 108), (5, 109), (5, 111), (0, 42)] (by decide +kernel)
set_option maxRecDepth 20000 in
theorem ww_w_r18 : ∀ w ∈ wsL_law_r18, w ∈ lw_tbl := ww_of _ [(5, 112), (5, 113), (5, 115), (0, 43), (5, 116), (5, 117), (5, 119), (0, 44), (5, 120), (5, 121), (5, 123), (0, 45), (5, 124), (4, 212), (4, 214), (0, 23), (4, 215), (4, 216), (4, 217), (4, 218), (3, 42), (3, 43), (3, 44), (3, 45)] (by decide +kernel)
set_option maxRecDepth 20000 in
theorem ww_w_r19 : ∀ w ∈ wsL_law_r19, w ∈ lw_tbl := ww_of _ [(3, 55), (3, 46), (3, 47), (3, 48), (3, 49), (3, 50), (3, 51), (3, 52), (3, 53), (3, 54), (3, 56), (3, 57), (3, 58), (3, 59), (3, 60), (3, 62), (0, 11), (3, 63), (3, 64), (3, 65), (3, 66), (3, 67), (3, 68), (3, 69)] (by decide +kernel)
set_option maxRecDepth 20000 in
theorem ww_w_r20 : ∀ w ∈ wsL_law_r20, w ∈ lw_tbl := ww_of _ [(3, 70), (3, 71), (3, 72), (3, 73), (3, 74), (3, 75), (3, 76), (3, 77), (3, 78), (3, 79), (3, 80), (3, 81), (3, 82), (3, 83), (3, 84), (3, 85), (3, 86), (3, 87), (3, 88), (3, 89), (1, 17), (3, 90), (3, 91), (3, 92)] (by decide +kernel)
set_option maxRecDepth 20000 in
theorem ww_w_r21 : ∀ w ∈ wsL_law_r21, w ∈ lw_tbl := ww_of _ [(3, 93), (4, 208), (4, 209), (4, 210), (4, 211), (4, 223), (4, 219), (4, 221), (0, 24), (4, 222), (4, 224), (4, 226), (0, 25), (4, 227), (3, 94), (3, 95), (3, 96), (3, 97), (3, 98), (3, 99), (3, 100), (3, 101), (3, 103), (3, 105)] (by decide +kernel)
set_option maxRecDepth 20000 in
theorem ww_w_r22 : ∀ w ∈ wsL_law_r22, w ∈ lw_tbl := ww_of _ [(3, 106), (3, 107), (3, 108), (3, 109), (4, 228), (4, 229), (4, 230), (4, 231), (4, 232), (4, 233), (4, 234), (3, 110), (3, 111), (3, 112), (3, 113), (3, 114), (3, 115), (3, 116), (3, 117), (4, 235), (4, 236), (4, 237), (4, 238), (3, 118)] (by decide +kernel)
set_option maxRecDepth 20000 in
theorem ww_w_r23 : ∀ w ∈ wsL_law_r23, w ∈ lw_tbl := ww_of _ [(3, 119), (3, 120), (3, 121), (3, 122), (3, 123), (3, 124), (3, 125), (3, 126), (3, 127), (3, 128), (3, 129), (3, 130), (3, 131), (3, 132), (3, 133), (3, 134), (4, 239), (5, 0), (5, 1), (5, 2), (5, 3), (5, 5), (0, 26), (5, 6)] (by decide +kernel)
set_option maxRecDepth 20000 in
theorem ww_w_r24 : ∀ w ∈ wsL_law_r24, w ∈ lw_tbl := ww_of _ [(5, 7), (5, 9), (0, 27), (5, 10), (5, 11), (5, 13), (0, 28), (5, 14), (5, 15), (5, 16), (5, 17), (3, 135), (3, 136), (3, 137), (3, 138), (3, 139), (3, 140), (3, 141), (3, 142), (3, 143), (3, 144), (1, 18), (3, 145), (3, 146)] (by decide +kernel)
set_option maxRecDepth 20000 in
theorem ww_w_r25 : ∀ w ∈ wsL_law_r25, w ∈ lw_tbl := ww_of _ [(3, 148), (0, 12), (3, 149), (3, 150), (3, 151), (3, 152), (3, 153), (3, 154), (3, 156), (0, 13), (3, 157), (5, 18), (5, 19), (5, 20), (5, 21), (5, 22), (5, 24), (0, 29), (5, 25), (4, 146), (4, 147), (5, 26), (5, 28), (0, 30)] (by decide +kernel)
set_option maxRecDepth 20000 in
theorem ww_w_r26 : ∀ w ∈ wsL_law_r26, w ∈ lw_tbl := ww_of _ [(5, 29), (5, 30), (5, 32), (0, 31), (5, 33), (5, 34), (5, 36), (0, 32), (5, 37), (3, 158), (3, 159), (3, 160), (3, 161), (3, 162), (3, 163), (3, 164), (3, 165), (3, 166), (3, 168), (0, 14), (3, 169), (3, 170), (3, 172), (0, 15)] (by decide +kernel)
set_option maxRecDepth 20000 in
theorem ww_w_r27 : ∀ w ∈ wsL_law_r27, w ∈ lw_tbl := ww_of _ [(3, 173), (3, 174), (3, 175), (3, 177), (0, 16), (3, 178), (3, 179), (5, 38), (5, 39), (5, 40), (5, 41), (5, 42), (5, 44), (0, 33), (5, 45), (5, 46), (5, 48), (0, 34), (5, 49), (5, 50), (5, 52), (0, 35), (5, 53), (3, 180)] (by decide +kernel)
set_option maxRecDepth 20000 in
theorem ww_w_r28 : ∀ w ∈ wsL_law_r28, w ∈ lw_tbl := ww_of _ [(3, 181), (3, 182), (3, 183), (3, 184), (3, 185), (3, 186), (3, 187), (3, 188), (3, 189), (3, 190), (3, 191), (3, 192), (5, 54), (5, 55), (5, 56), (5, 57), (5, 58), (5, 60), (0, 36), (5, 61), (3, 193), (3, 194), (3, 195), (3, 196)] (by decide +kernel)
set_option maxRecDepth 20000 in
theorem ww_w_r29 : ∀ w ∈ wsL_law_r29, w ∈ lw_tbl := ww_of _ [(3, 197), (5, 62), (5, 63), (5, 64), (5, 65), (5, 66), (5, 67), (5, 68), (3, 198), (3, 199), (3, 200), (3, 201), (3, 202), (3, 203), (3, 204), (3, 205), (3, 206), (5, 69), (5, 70), (5, 71), (5, 72), (3, 207), (3, 208), (3, 209)] (by decide +kernel)
set_option maxRecDepth 20000 in
theorem ww_w_r30 : ∀ w ∈ wsL_law_r30, w ∈ lw_tbl := ww_of _ [(3, 210), (3, 211), (3, 212), (3, 213), (3, 214), (5, 73), (5, 74), (5, 75), (5, 76), (3, 215), (3, 216), (3, 217), (3, 218), (3, 219), (3, 220), (3, 221), (3, 222), (3, 223), (3, 224), (3, 225), (3, 226), (5, 77), (5, 78), (5, 79)] (by decide +kernel)
set_option maxRecDepth 20000 in
theorem ww_w_r31 : ∀ w ∈ wsL_law_r31, w ∈ lw_tbl := ww_of _ [(5, 80), (3, 227), (3, 228), (3, 229), (3, 230), (5, 81), (5, 82), (5, 83), (5, 84), (3, 231), (3, 232), (3, 233), (3, 234), (3, 235), (3, 236), (3, 237), (3, 238), (3, 239), (4, 0), (4, 1), (4, 2), (5, 125), (5, 126), (5, 127)] (by decide +kernel)
set_option maxRecDepth 20000 in
theorem ww_w_r32 : ∀ w ∈ wsL_law_r32, w ∈ lw_tbl := ww_of _ [(5, 128), (5, 129), (5, 131), (0, 46), (5, 132), (5, 133), (5, 135), (0, 47), (5, 136), (4, 3), (4, 4), (4, 5), (4, 6), (4, 16), (4, 7), (4, 8), (4, 9), (4, 10), (4, 11), (4, 12), (4, 13), (4, 14), (4, 15), (5, 137)] (by decide +kernel)
set_option maxRecDepth 20000 in
theorem ww_w_r33 : ∀ w ∈ wsL_law_r33, w ∈ lw_tbl := ww_of _ [(5, 138), (5, 139), (5, 140), (5, 149), (5, 141), (5, 143), (0, 48), (5, 144), (5, 145), (5, 147), (0, 49), (5, 148), (4, 17), (4, 18), (4, 19), (4, 20), (4, 21), (4, 22), (4, 23), (4, 24), (4, 25), (4, 26), (5, 150), (5, 151)] (by decide +kernel)
set_option maxRecDepth 20000 in
theorem ww_w_r34 : ∀ w ∈ wsL_law_r34, w ∈ lw_tbl := ww_of _ [(5, 152), (5, 153), (4, 27), (4, 28), (4, 29), (4, 30), (4, 31), (4, 32), (4, 33), (5, 154), (5, 155), (5, 156), (5, 157), (4, 34), (4, 35), (4, 36), (4, 37), (4, 38), (4, 39), (4, 40), (4, 41), (4, 42), (4, 43), (4, 44)] (by decide +kernel)
set_option maxRecDepth 20000 in
theorem ww_w_r35 : ∀ w ∈ wsL_law_r35, w ∈ lw_tbl := ww_of _ [(4, 45), (4, 46), (4, 47), (4, 48), (4, 49), (4, 50), (4, 51), (4, 52), (4, 54), (0, 17), (4, 55), (4, 56), (4, 57), (4, 59), (0, 18), (4, 60), (4, 61), (4, 63), (0, 19), (4, 64), (4, 65), (4, 66), (4, 67), (4, 68)] (by decide +kernel)
set_option maxRecDepth 20000 in
theorem ww_w_r36 : ∀ w ∈ wsL_law_r36, w ∈ lw_tbl := ww_of _ [(4, 79), (4, 80), (4, 81), (4, 69), (4, 70), (4, 71), (4, 72), (4, 74), (4, 75), (4, 77), (4, 78), (5, 158), (5, 159), (5, 160), (5, 161), (5, 162), (5, 164), (0, 50), (5, 165), (5, 166), (5, 168), (0, 51), (5, 169), (4, 82)] (by decide +kernel)
set_option maxRecDepth 20000 in
theorem ww_w_r37 : ∀ w ∈ wsL_law_r37, w ∈ lw_tbl := ww_of _ [(4, 83), (4, 84), (4, 85), (4, 86), (4, 87), (4, 88), (4, 89), (4, 90), (4, 92), (0, 20), (4, 93), (4, 94), (4, 96), (0, 21), (4, 97), (4, 98), (4, 99), (4, 100), (4, 101), (4, 102), (4, 103), (4, 104), (5, 170), (5, 171)] (by decide +kernel)
set_option maxRecDepth 20000 in
theorem ww_w_r38 : ∀ w ∈ wsL_law_r38, w ∈ lw_tbl := ww_of _ [(5, 172), (5, 173), (4, 105), (4, 106), (4, 107), (4, 108), (4, 109), (5, 174), (5, 175), (5, 176), (5, 177), (4, 110), (4, 111), (4, 112), (4, 113), (4, 114), (5, 178), (5, 179), (5, 180), (5, 181), (4, 115), (4, 116), (4, 117), (4, 118)] (by decide +kernel)
set_option maxRecDepth 20000 in
theorem ww_w_r39 : ∀ w ∈ wsL_law_r39, w ∈ lw_tbl := ww_of _ [(4, 119), (4, 120), (4, 121), (4, 122), (5, 182), (5, 183), (5, 184), (5, 185), (4, 123), (4, 124), (4, 125), (4, 126), (4, 127), (4, 128), (4, 129), (4, 130), (5, 186), (5, 187), (5, 188), (5, 189)] (by decide +kernel)
theorem ww_wsX90 : ∀ w ∈ wsX90, w ∈ lw_tbl := ww_of _ [(2, 43), (2, 45), (2, 47), (2, 49), (2, 51)] (by decide +kernel)
theorem ww_wsX100 : ∀ w ∈ wsX100, w ∈ lw_tbl := ww_of _ [(4, 155), (4, 157), (4, 159), (4, 161), (4, 163), (4, 165), (4, 167), (4, 169), (4, 171), (4, 173), (4, 175), (4, 177), (4, 179), (4, 181), (4, 183), (4, 185), (4, 187), (4, 189)] (by decide +kernel)
theorem ww_wsX30 : ∀ w ∈ wsX30, w ∈ lw_tbl := ww_of _ [(1, 63), (1, 65), (1, 67), (1, 69), (1, 71), (1, 73), (1, 75), (1, 77)] (by decide +kernel)
theorem ww_wsX50 : ∀ w ∈ wsX50, w ∈ lw_tbl := ww_of _ [(1, 225), (1, 227), (1, 229)] (by decide +kernel)
theorem ww_wsX10 : ∀ w ∈ wsX10, w ∈ lw_tbl := ww_of _ [(2, 6), (2, 8), (2, 10)] (by decide +kernel)
theorem ww_wsX40 : ∀ w ∈ wsX40, w ∈ lw_tbl := ww_of _ [(2, 31), (2, 33)] (by decide +kernel)
theorem ww_wsX00 : ∀ w ∈ wsX00, w ∈ lw_tbl := ww_of _ [(1, 195), (1, 197), (1, 199), (1, 201), (1, 203), (1, 205), (1, 207), (1, 209), (1, 211), (1, 213), (1, 215), (1, 217)] (by decide +kernel)
theorem ww_wsX70 : ∀ w ∈ wsX70, w ∈ lw_tbl := ww_of _ [(1, 43), (1, 45)] (by decide +kernel)
theorem ww_wsX20 : ∀ w ∈ wsX20, w ∈ lw_tbl := ww_of _ [(1, 104), (1, 106), (1, 108)] (by decide +kernel)
theorem ww_wsX80 : ∀ w ∈ wsX80, w ∈ lw_tbl := ww_of _ [(1, 148), (1, 150), (1, 152), (1, 154), (1, 156), (1, 158), (1, 160), (1, 162), (1, 164), (1, 166), (1, 168)] (by decide +kernel)
theorem ww_wsX60 : ∀ w ∈ wsX60, w ∈ lw_tbl := ww_of _ [(2, 26)] (by decide +kernel)
set_option maxRecDepth 20000 in
theorem wsL_law_in : ∀ w ∈ wsL_law, w ∈ lw_tbl := (List.forall_mem_append.mpr ⟨(List.forall_mem_append.mpr ⟨(List.forall_mem_append.mpr ⟨(List.forall_mem_append.mpr ⟨(List.forall_mem_append.mpr ⟨(List.forall_mem_append.mpr ⟨(List.forall_mem_append.mpr ⟨(List.forall_mem_append.mpr ⟨(List.forall_mem_append.mpr ⟨(List.forall_mem_append.mpr ⟨(List.forall_mem_append.mpr ⟨(List.forall_mem_append.mpr ⟨(List.forall_mem_append.mpr ⟨ww_w_r1, (List.forall_mem_append.mpr ⟨ww_w_r2, (List.forall_mem_append.mpr ⟨ww_w_r3, (List.forall_mem_append.mpr ⟨ww_w_r4, (List.forall_mem_append.mpr ⟨ww_w_r5, (List.forall_mem_append.mpr ⟨ww_w_r6, (List.forall_mem_append.mpr ⟨ww_w_r7, (List.forall_mem_append.mpr ⟨ww_w_r8, (List.forall_mem_append.mpr ⟨ww_w_r9, (List.forall_mem_append.mpr ⟨ww_w_r10, (List.forall_mem_append.mpr ⟨ww_w_r11, (List.forall_mem_append.mpr ⟨ww_w_r12, (List.forall_mem_append.mpr ⟨ww_w_r13, (List.forall_mem_append.mpr ⟨ww_w_r14, (List.forall_mem_append.mpr ⟨ww_w_r15, (List.forall_mem_append.mpr ⟨ww_w_r16, (List.forall_mem_append.mpr ⟨ww_w_r17, (List.forall_mem_append.mpr ⟨ww_w_r18, (List.forall_mem_append.mpr ⟨ww_w_r19, (List.forall_mem_append.mpr ⟨ww_w_r20, (List.forall_mem_append.mpr ⟨ww_w_r21, (List.forall_mem_append.mpr ⟨ww_w_r22, (List.forall_mem_append.mpr ⟨ww_w_r23, (List.forall_mem_append.mpr ⟨ww_w_r24, (List.forall_mem_append.mpr ⟨ww_w_r25, (List.forall_mem_append.mpr ⟨ww_w_r26, (List.forall_mem_append.mpr ⟨ww_w_r27, (List.forall_mem_append.mpr ⟨ww_w_r28, (List.forall_mem_append.mpr ⟨ww_w_r29, (List.forall_mem_append.mpr ⟨ww_w_r30, (List.forall_mem_append.mpr ⟨ww_w_r31, (List.forall_mem_append.mpr ⟨ww_w_r32, (List.forall_mem_append.mpr ⟨ww_w_r33, (List.forall_mem_append.mpr ⟨ww_w_r34, (List.forall_mem_append.mpr ⟨ww_w_r35, (List.forall_mem_append.mpr ⟨ww_w_r36, (List.forall_mem_append.mpr ⟨ww_w_r37, (List.forall_mem_append.mpr ⟨ww_w_r38, ww_w_r39⟩)⟩)⟩)⟩)⟩)⟩)⟩)⟩)⟩)⟩)⟩)⟩)⟩)⟩)⟩)⟩)⟩)⟩)⟩)⟩)⟩)⟩)⟩)⟩)⟩)⟩)⟩)⟩)⟩)⟩)⟩)⟩)⟩)⟩)⟩)⟩)⟩)⟩), ww_wsX90⟩), ww_wsX100⟩), ww_wsX30⟩), ww_wsX50⟩), ww_wsX10⟩), ww_wsX40⟩), ww_wsX00⟩), ww_wsX70⟩), ww_wsX20⟩), ww_wsX80⟩), ww_wsX60⟩), (fun _ h => absurd h List.not_mem_nil)⟩)
