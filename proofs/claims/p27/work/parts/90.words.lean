/-- the pieces of the Statement's words -/
def ww_t : Nat → List Cond
  | 0 => k2_sels lw_privs
  | 1 => tables_1_1
  | 2 => tables_1_2
  | 3 => tables_1_3
  | _ => tables_1_4
theorem ww_in : ∀ (k : Nat) (w : Cond), w ∈ ww_t k → w ∈ lw_tbl := by
  intro k w h
  show w ∈ k2_sels lw_privs ++ (tables_1_1 ++ (tables_1_2 ++ (tables_1_3 ++ tables_1_4)))
  match k, h with
  | 0, h => exact List.mem_append_left _ h
  | 1, h => exact List.mem_append_right _ (List.mem_append_left _ h)
  | 2, h => exact List.mem_append_right _ (List.mem_append_right _ (List.mem_append_left _ h))
  | 3, h => exact List.mem_append_right _ (List.mem_append_right _ (List.mem_append_right _ (List.mem_append_left _ h)))
  | _ + 4, h => exact List.mem_append_right _ (List.mem_append_right _ (List.mem_append_right _ (List.mem_append_right _ h)))
theorem ww_of (ws : List Cond) (ps : List (Nat × Nat)) (hp : ws = ps.filterMap (fun i => (ww_t i.1)[i.2]?)) : ∀ w ∈ ws, w ∈ lw_tbl := by
  intro w hw
  rw [hp] at hw
  obtain ⟨i, -, hi⟩ := List.mem_filterMap.mp hw
  exact ww_in i.1 w (List.mem_of_getElem? hi)
set_option maxRecDepth 20000 in
theorem ww_w_r1 : ∀ w ∈ wsL_law_r1, w ∈ lw_tbl := ww_of _ [(1, 18), (1, 19), (1, 1), (4, 35), (3, 222), (1, 20), (1, 21), (1, 22), (1, 23), (1, 24), (1, 25), (1, 26), (1, 27), (1, 2), (2, 37), (1, 79), (1, 80), (1, 4), (2, 38), (1, 232), (1, 233), (1, 8), (2, 39), (2, 12)] (by decide +kernel)
set_option maxRecDepth 20000 in
theorem ww_w_r2 : ∀ w ∈ wsL_law_r2, w ∈ lw_tbl := ww_of _ [(2, 13), (1, 9), (2, 40), (2, 35), (1, 86), (1, 5), (2, 41), (1, 29), (1, 30), (1, 31), (1, 32), (1, 33), (1, 3), (1, 48), (1, 52), (1, 35), (1, 36), (1, 37), (1, 47), (1, 38), (1, 81), (1, 82), (1, 83), (1, 84)] (by decide +kernel)
set_option maxRecDepth 20000 in
theorem ww_w_r3 : ∀ w ∈ wsL_law_r3, w ∈ lw_tbl := ww_of _ [(1, 85), (1, 220), (1, 222), (1, 231), (1, 223), (1, 87), (1, 88), (1, 89), (1, 90), (1, 91), (1, 92), (1, 6), (1, 172), (1, 110), (1, 175), (1, 176), (1, 177), (1, 112), (1, 7), (1, 94), (1, 95), (1, 96), (1, 97), (1, 98)] (by decide +kernel)
set_option maxRecDepth 20000 in
theorem ww_w_r4 : ∀ w ∈ wsL_law_r4, w ∈ lw_tbl := ww_of _ [(1, 114), (1, 115), (1, 116), (1, 234), (1, 235), (1, 236), (1, 237), (1, 238), (2, 1), (2, 0), (2, 15), (2, 16), (2, 17), (2, 18), (2, 19), (1, 10), (2, 28), (2, 29), (2, 21), (2, 22), (2, 23), (2, 24), (2, 36), (3, 208)] (by decide +kernel)
set_option maxRecDepth 20000 in
theorem ww_w_r5 : ∀ w ∈ wsL_law_r5, w ∈ lw_tbl := ww_of _ [(3, 209), (1, 0), (3, 210), (3, 148), (3, 149), (3, 150), (3, 151), (2, 60), (3, 55), (3, 56), (3, 57), (3, 58), (3, 4), (3, 5), (3, 6), (3, 7), (3, 59), (3, 61), (0, 11), (3, 62), (3, 63), (3, 64), (3, 65), (3, 66)] (by decide +kernel)
set_option maxRecDepth 20000 in
theorem ww_w_r6 : ∀ w ∈ wsL_law_r6, w ∈ lw_tbl := ww_of _ [(3, 67), (3, 68), (3, 69), (3, 70), (3, 71), (3, 72), (3, 73), (3, 74), (1, 131), (3, 75), (3, 76), (3, 77), (3, 78), (3, 79), (3, 80), (3, 81), (3, 82), (3, 83), (3, 84), (3, 85), (3, 86), (1, 120), (2, 101), (2, 102)] (by decide +kernel)
set_option maxRecDepth 20000 in
theorem ww_w_r7 : ∀ w ∈ wsL_law_r7, w ∈ lw_tbl := ww_of _ [(2, 103), (2, 104), (3, 87), (3, 88), (1, 11), (3, 89), (3, 90), (3, 91), (3, 92), (3, 152), (3, 153), (3, 154), (3, 155), (3, 156), (3, 157), (3, 158), (3, 159), (2, 109), (2, 110), (2, 111), (2, 112), (3, 104), (3, 211), (3, 212)] (by decide +kernel)
set_option maxRecDepth 20000 in
theorem ww_w_r8 : ∀ w ∈ wsL_law_r8, w ∈ lw_tbl := ww_of _ [(3, 213), (3, 214), (3, 215), (3, 216), (3, 217), (3, 219), (3, 45), (3, 218), (3, 220), (3, 221), (3, 223), (3, 224), (3, 225), (3, 226), (3, 160), (3, 161), (3, 162), (3, 163), (3, 164), (3, 165), (3, 166), (3, 167), (3, 168), (3, 169)] (by decide +kernel)
set_option maxRecDepth 20000 in
theorem ww_w_r9 : ∀ w ∈ wsL_law_r9, w ∈ lw_tbl := ww_of _ [(3, 170), (3, 171), (3, 172), (3, 227), (3, 228), (3, 229), (3, 230), (3, 54), (3, 231), (3, 232), (3, 233), (3, 234), (3, 235), (3, 236), (3, 237), (3, 238), (3, 239), (4, 0), (4, 1), (4, 2), (4, 3), (4, 4), (4, 5), (4, 7)] (by decide +kernel)
set_option maxRecDepth 20000 in
theorem ww_w_r10 : ∀ w ∈ wsL_law_r10, w ∈ lw_tbl := ww_of _ [(0, 14), (4, 8), (4, 9), (4, 10), (4, 12), (0, 15), (4, 13), (4, 14), (4, 16), (0, 16), (4, 17), (4, 18), (4, 19), (4, 20), (4, 21), (1, 125), (1, 128), (1, 123), (4, 32), (4, 33), (1, 12), (4, 34), (2, 118), (2, 119)] (by decide +kernel)
set_option maxRecDepth 20000 in
theorem ww_w_r11 : ∀ w ∈ wsL_law_r11, w ∈ lw_tbl := ww_of _ [(4, 22), (4, 23), (4, 24), (4, 25), (4, 27), (4, 28), (4, 30), (4, 31), (4, 36), (4, 37), (4, 38), (4, 39), (4, 40), (4, 41), (4, 42), (4, 43), (4, 44), (4, 45), (4, 46), (4, 47), (4, 48), (4, 49), (4, 50), (4, 51)] (by decide +kernel)
set_option maxRecDepth 20000 in
theorem ww_w_r12 : ∀ w ∈ wsL_law_r12, w ∈ lw_tbl := ww_of _ [(4, 52), (4, 54), (0, 17), (4, 55), (4, 56), (4, 58), (0, 18), (4, 59), (4, 60), (4, 61), (4, 62), (4, 63), (4, 64), (4, 65), (4, 66), (4, 67), (4, 68), (4, 69), (4, 70), (4, 71), (4, 72), (4, 73), (4, 74), (4, 75)] (by decide +kernel)
set_option maxRecDepth 20000 in
theorem ww_w_r13 : ∀ w ∈ wsL_law_r13, w ∈ lw_tbl := ww_of _ [(4, 76), (4, 77), (3, 140), (3, 141), (3, 142), (3, 143), (3, 144), (3, 145), (3, 146), (3, 147), (2, 3), (2, 70), (2, 72), (0, 0), (2, 73), (2, 2), (2, 74), (2, 75), (2, 76), (2, 77), (2, 78), (2, 79), (2, 80), (2, 81)] (by decide +kernel)
set_option maxRecDepth 20000 in
theorem ww_w_r14 : ∀ w ∈ wsL_law_r14, w ∈ lw_tbl := ww_of _ [(1, 179), (1, 181), (1, 183), (1, 185), (1, 187), (1, 189), (1, 191), (1, 193), (2, 82), (2, 83), (2, 84), (2, 85), (1, 99), (2, 86), (2, 88), (2, 87), (1, 13), (2, 89), (2, 90), (2, 91), (2, 92), (1, 117), (1, 133), (1, 135)] (by decide +kernel)
set_option maxRecDepth 20000 in
theorem ww_w_r15 : ∀ w ∈ wsL_law_r15, w ∈ lw_tbl := ww_of _ [(1, 138), (1, 141), (1, 144), (2, 93), (2, 94), (2, 95), (2, 96), (2, 97), (2, 98), (2, 99), (2, 100), (2, 105), (2, 107), (0, 1), (2, 108), (2, 113), (2, 114), (2, 115), (2, 116), (3, 173), (3, 174), (3, 175), (3, 176), (3, 93)] (by decide +kernel)
set_option maxRecDepth 20000 in
theorem ww_w_r16 : ∀ w ∈ wsL_law_r16, w ∈ lw_tbl := ww_of _ [(3, 94), (3, 95), (3, 96), (3, 97), (3, 98), (3, 99), (3, 100), (3, 102), (2, 66), (2, 67), (2, 68), (2, 69), (3, 105), (3, 106), (3, 107), (3, 108), (3, 109), (3, 110), (3, 111), (3, 112), (2, 65), (3, 113), (3, 114), (3, 115)] (by decide +kernel)
set_option maxRecDepth 20000 in
theorem ww_w_r17 : ∀ w ∈ wsL_law_r17, w ∈ lw_tbl := ww_of _ [(3, 116), (3, 177), (3, 178), (3, 179), (3, 180), (3, 181), (3, 182), (3, 183), (3, 8), (3, 9), (3, 10), (3, 11), (1, 39), (3, 184), (3, 185), (3, 186), (3, 187), (3, 188), (3, 189), (3, 190), (3, 191), (3, 192), (3, 193), (3, 194)] (by decide +kernel)
set_option maxRecDepth 20000 in
theorem ww_w_r18 : ∀ w ∈ wsL_law_r18, w ∈ lw_tbl := ww_of _ [(3, 195), (3, 196), (3, 197), (3, 198), (3, 199), (3, 200), (3, 201), (3, 202), (3, 203), (3, 204), (3, 205), (3, 206), (3, 207), (2, 124), (2, 125), (2, 126), (2, 127), (2, 128), (2, 129), (2, 130), (2, 131), (1, 51), (1, 54), (1, 56)] (by decide +kernel)
set_option maxRecDepth 20000 in
theorem ww_w_r19 : ∀ w ∈ wsL_law_r19, w ∈ lw_tbl := ww_of _ [(1, 58), (1, 60), (2, 132), (2, 134), (0, 2), (2, 135), (2, 136), (2, 138), (0, 3), (2, 139), (1, 50), (2, 140), (2, 141), (2, 142), (2, 143), (2, 144), (2, 145), (2, 146), (2, 147), (2, 148), (2, 149), (2, 150), (2, 151), (2, 152)] (by decide +kernel)
set_option maxRecDepth 20000 in
theorem ww_w_r20 : ∀ w ∈ wsL_law_r20, w ∈ lw_tbl := ww_of _ [(2, 153), (2, 154), (2, 155), (2, 161), (2, 163), (0, 4), (2, 164), (2, 165), (2, 166), (2, 167), (1, 14), (2, 168), (4, 126), (2, 169), (2, 170), (2, 171), (2, 172), (2, 173), (4, 127), (2, 175), (2, 176), (2, 177), (2, 178), (2, 179)] (by decide +kernel)
set_option maxRecDepth 20000 in
theorem ww_w_r21 : ∀ w ∈ wsL_law_r21, w ∈ lw_tbl := ww_of _ [(2, 180), (2, 181), (2, 182), (2, 183), (2, 184), (1, 15), (2, 185), (2, 186), (2, 187), (2, 188), (2, 189), (2, 191), (2, 192), (1, 16), (2, 193), (2, 194), (2, 195), (1, 17), (2, 196), (2, 197), (2, 198), (2, 199), (2, 200), (2, 201)] (by decide +kernel)
set_option maxRecDepth 20000 in
theorem ww_w_r22 : ∀ w ∈ wsL_law_r22, w ∈ lw_tbl := ww_of _ [(2, 202), (2, 203), (2, 204), (2, 205), (2, 206), (2, 207), (2, 209), (2, 211), (2, 213), (2, 215), (0, 5), (2, 216), (2, 217), (2, 219), (0, 6), (2, 220), (2, 223), (2, 225), (0, 7), (2, 226), (2, 227), (2, 229), (0, 8), (2, 230)] (by decide +kernel)
set_option maxRecDepth 20000 in
theorem ww_w_r23 : ∀ w ∈ wsL_law_r23, w ∈ lw_tbl := ww_of _ [(2, 232), (2, 234), (0, 9), (2, 235), (2, 236), (2, 237), (2, 238), (2, 239), (3, 0), (3, 1), (3, 2), (3, 3), (3, 12), (3, 13), (3, 14), (3, 15), (3, 16), (3, 17), (3, 18), (3, 20), (0, 10), (3, 21), (3, 22), (3, 23)] (by decide +kernel)
set_option maxRecDepth 20000 in
theorem ww_w_r24 : ∀ w ∈ wsL_law_r24, w ∈ lw_tbl := ww_of _ [(3, 24), (3, 25), (3, 26), (3, 28), (3, 29), (3, 30), (3, 31), (3, 32), (3, 33), (3, 34), (3, 35), (3, 36), (3, 37), (3, 38), (3, 39), (4, 89), (4, 90), (4, 91), (4, 106), (4, 92), (4, 93), (4, 94), (4, 95), (4, 96)] (by decide +kernel)
set_option maxRecDepth 20000 in
theorem ww_w_r25 : ∀ w ∈ wsL_law_r25, w ∈ lw_tbl := ww_of _ [(4, 97), (4, 98), (4, 99), (4, 100), (4, 101), (4, 102), (4, 103), (4, 104), (4, 105), (4, 107), (4, 108), (4, 109), (3, 117), (3, 118), (3, 119), (3, 120), (3, 121), (3, 122), (3, 123), (3, 124), (3, 125), (3, 126), (3, 127), (3, 128)] (by decide +kernel)
set_option maxRecDepth 20000 in
theorem ww_w_r26 : ∀ w ∈ wsL_law_r26, w ∈ lw_tbl := ww_of _ [(3, 130), (0, 12), (3, 131), (3, 132), (3, 133), (3, 134), (3, 135), (3, 136), (3, 138), (0, 13), (3, 139), (4, 110), (4, 111), (4, 112), (4, 113), (4, 114), (4, 115), (4, 116), (4, 117), (4, 118), (4, 119), (4, 120), (4, 121), (4, 122)] (by decide +kernel)
set_option maxRecDepth 20000 in
theorem ww_w_r27 : ∀ w ∈ wsL_law_r27, w ∈ lw_tbl := ww_of _ [(4, 123), (4, 124), (4, 125), (4, 78), (4, 79), (4, 80), (4, 81), (4, 82), (4, 83), (4, 84), (4, 85), (4, 86), (4, 87), (4, 88), (2, 53), (2, 54), (2, 55), (2, 56), (2, 57), (2, 58), (2, 59), (2, 61), (2, 62), (2, 63)] (by decide +kernel)
set_option maxRecDepth 20000 in
theorem ww_w_r28 : ∀ w ∈ wsL_law_r28, w ∈ lw_tbl := ww_of _ [(2, 64), (2, 117), (2, 120), (2, 121), (2, 122), (2, 123), (3, 41), (3, 42), (3, 43), (3, 44), (3, 46), (3, 47), (3, 48), (3, 49), (3, 50), (3, 51), (3, 52), (3, 53)] (by decide +kernel)
theorem ww_wsX90 : ∀ w ∈ wsX90, w ∈ lw_tbl := ww_of _ [(2, 42), (2, 44), (2, 46), (2, 48), (2, 50)] (by decide +kernel)
theorem ww_wsX30 : ∀ w ∈ wsX30, w ∈ lw_tbl := ww_of _ [(1, 62), (1, 64), (1, 66), (1, 68), (1, 70), (1, 72), (1, 74), (1, 76)] (by decide +kernel)
theorem ww_wsX50 : ∀ w ∈ wsX50, w ∈ lw_tbl := ww_of _ [(1, 224), (1, 226), (1, 228)] (by decide +kernel)
theorem ww_wsX10 : ∀ w ∈ wsX10, w ∈ lw_tbl := ww_of _ [(2, 5), (2, 7), (2, 9)] (by decide +kernel)
theorem ww_wsX40 : ∀ w ∈ wsX40, w ∈ lw_tbl := ww_of _ [(2, 30), (2, 32)] (by decide +kernel)
theorem ww_wsX00 : ∀ w ∈ wsX00, w ∈ lw_tbl := ww_of _ [(1, 194), (1, 196), (1, 198), (1, 200), (1, 202), (1, 204), (1, 206), (1, 208), (1, 210), (1, 212), (1, 214), (1, 216)] (by decide +kernel)
theorem ww_wsX70 : ∀ w ∈ wsX70, w ∈ lw_tbl := ww_of _ [(1, 42), (1, 44)] (by decide +kernel)
theorem ww_wsX20 : ∀ w ∈ wsX20, w ∈ lw_tbl := ww_of _ [(1, 103), (1, 105), (1, 107)] (by decide +kernel)
theorem ww_wsX80 : ∀ w ∈ wsX80, w ∈ lw_tbl := ww_of _ [(1, 147), (1, 149), (1, 151), (1, 153), (1, 155), (1, 157), (1, 159), (1, 161), (1, 163), (1, 165), (1, 167)] (by decide +kernel)
theorem ww_wsX60 : ∀ w ∈ wsX60, w ∈ lw_tbl := ww_of _ [(2, 25)] (by decide +kernel)
set_option maxRecDepth 20000 in
theorem wsL_law_in : ∀ w ∈ wsL_law, w ∈ lw_tbl := (List.forall_mem_append.mpr ⟨(List.forall_mem_append.mpr ⟨(List.forall_mem_append.mpr ⟨(List.forall_mem_append.mpr ⟨(List.forall_mem_append.mpr ⟨(List.forall_mem_append.mpr ⟨(List.forall_mem_append.mpr ⟨(List.forall_mem_append.mpr ⟨(List.forall_mem_append.mpr ⟨(List.forall_mem_append.mpr ⟨(List.forall_mem_append.mpr ⟨(List.forall_mem_append.mpr ⟨ww_w_r1, (List.forall_mem_append.mpr ⟨ww_w_r2, (List.forall_mem_append.mpr ⟨ww_w_r3, (List.forall_mem_append.mpr ⟨ww_w_r4, (List.forall_mem_append.mpr ⟨ww_w_r5, (List.forall_mem_append.mpr ⟨ww_w_r6, (List.forall_mem_append.mpr ⟨ww_w_r7, (List.forall_mem_append.mpr ⟨ww_w_r8, (List.forall_mem_append.mpr ⟨ww_w_r9, (List.forall_mem_append.mpr ⟨ww_w_r10, (List.forall_mem_append.mpr ⟨ww_w_r11, (List.forall_mem_append.mpr ⟨ww_w_r12, (List.forall_mem_append.mpr ⟨ww_w_r13, (List.forall_mem_append.mpr ⟨ww_w_r14, (List.forall_mem_append.mpr ⟨ww_w_r15, (List.forall_mem_append.mpr ⟨ww_w_r16, (List.forall_mem_append.mpr ⟨ww_w_r17, (List.forall_mem_append.mpr ⟨ww_w_r18, (List.forall_mem_append.mpr ⟨ww_w_r19, (List.forall_mem_append.mpr ⟨ww_w_r20, (List.forall_mem_append.mpr ⟨ww_w_r21, (List.forall_mem_append.mpr ⟨ww_w_r22, (List.forall_mem_append.mpr ⟨ww_w_r23, (List.forall_mem_append.mpr ⟨ww_w_r24, (List.forall_mem_append.mpr ⟨ww_w_r25, (List.forall_mem_append.mpr ⟨ww_w_r26, (List.forall_mem_append.mpr ⟨ww_w_r27, ww_w_r28⟩)⟩)⟩)⟩)⟩)⟩)⟩)⟩)⟩)⟩)⟩)⟩)⟩)⟩)⟩)⟩)⟩)⟩)⟩)⟩)⟩)⟩)⟩)⟩)⟩)⟩)⟩), ww_wsX90⟩), ww_wsX30⟩), ww_wsX50⟩), ww_wsX10⟩), ww_wsX40⟩), ww_wsX00⟩), ww_wsX70⟩), ww_wsX20⟩), ww_wsX80⟩), ww_wsX60⟩), (fun _ h => absurd h List.not_mem_nil)⟩)
