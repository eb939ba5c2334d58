/-! the law's words, in lists: each lies in lw_tbl, by its place; written by program -/
def am_tb : Nat → List Cond := fun k => match k with
  | 0 => k2_sels lw_privs
  | 1 => tables_1_1
  | 2 => tables_1_2
  | 3 => tables_1_3
  | 4 => tables_1_4
  | 5 => tables_1_5
  | 6 => tables_1_6
  | 7 => tables_1_7
  | 8 => tables_1_8
  | _ => []
theorem am_tb_in : ∀ (k : Nat) (w : Cond), w ∈ am_tb k → w ∈ lw_tbl := by
  intro k w h
  unfold lw_tbl tables_1
  match k, h with
  | 0, h => exact List.mem_append_left _ h
  | 1, h => exact List.mem_append_right _ (List.mem_append_left _ h)
  | 2, h => exact List.mem_append_right _ (List.mem_append_right _ (List.mem_append_left _ h))
  | 3, h => exact List.mem_append_right _ (List.mem_append_right _ (List.mem_append_right _ (List.mem_append_left _ h)))
  | 4, h => exact List.mem_append_right _ (List.mem_append_right _ (List.mem_append_right _ (List.mem_append_right _ (List.mem_append_left _ h))))
  | 5, h => exact List.mem_append_right _ (List.mem_append_right _ (List.mem_append_right _ (List.mem_append_right _ (List.mem_append_right _ (List.mem_append_left _ h)))))
  | 6, h => exact List.mem_append_right _ (List.mem_append_right _ (List.mem_append_right _ (List.mem_append_right _ (List.mem_append_right _ (List.mem_append_right _ (List.mem_append_left _ h))))))
  | 7, h => exact List.mem_append_right _ (List.mem_append_right _ (List.mem_append_right _ (List.mem_append_right _ (List.mem_append_right _ (List.mem_append_right _ (List.mem_append_right _ (List.mem_append_left _ h)))))))
  | 8, h => exact List.mem_append_right _ (List.mem_append_right _ (List.mem_append_right _ (List.mem_append_right _ (List.mem_append_right _ (List.mem_append_right _ (List.mem_append_right _ (List.mem_append_right _ (h))))))))
  | k + 9, h => exact absurd h List.not_mem_nil
theorem am_tb_all {l : List Cond} (ps : List (Nat × Nat)) (h : l.map some = ps.map (fun q => (am_tb q.1)[q.2]?)) : ∀ w ∈ l, w ∈ lw_tbl := by
  intro w hw
  have h1 : some w ∈ l.map some := List.mem_map.mpr ⟨w, hw, rfl⟩
  rw [h] at h1
  obtain ⟨q, -, hq⟩ := List.mem_map.mp h1
  exact am_tb_in q.1 w (List.mem_of_getElem? hq)
set_option maxRecDepth 20000 in
theorem am_wi1 : ∀ w ∈ wsL_law0_r1, w ∈ lw_tbl := am_tb_all [(1, 28), (1, 29), (1, 1), (6, 115), (6, 116), (1, 12), (8, 177), (8, 178), (1, 30), (1, 31), (1, 32), (1, 33), (1, 34), (1, 35), (1, 36), (1, 37), (1, 2), (1, 208), (1, 60), (1, 61), (1, 5), (1, 209), (1, 97), (1, 98)] (by decide +kernel)
set_option maxRecDepth 20000 in
theorem am_wi2 : ∀ w ∈ wsL_law0_r2, w ∈ lw_tbl := am_tb_all [(1, 7), (1, 210), (1, 124), (1, 125), (1, 8), (1, 211), (1, 142), (1, 43), (1, 3), (1, 212), (1, 213), (1, 144), (1, 145), (1, 9), (1, 214), (1, 162), (1, 163), (1, 10), (1, 215), (1, 216), (1, 189), (1, 190), (1, 11), (1, 217)] (by decide +kernel)
set_option maxRecDepth 20000 in
theorem am_wi3 : ∀ w ∈ wsL_law0_r3, w ∈ lw_tbl := am_tb_all [(1, 218), (1, 39), (1, 40), (1, 41), (1, 42), (1, 56), (1, 44), (1, 45), (1, 46), (1, 47), (1, 48), (1, 49), (1, 4), (1, 50), (1, 55), (1, 51), (1, 62), (1, 63), (1, 64), (1, 65), (1, 66), (1, 67), (1, 6), (1, 91)] (by decide +kernel)
set_option maxRecDepth 20000 in
theorem am_wi4 : ∀ w ∈ wsL_law0_r4, w ∈ lw_tbl := am_tb_all [(1, 90), (1, 69), (1, 70), (1, 71), (1, 72), (1, 75), (1, 77), (1, 79), (1, 99), (1, 100), (1, 101), (1, 102), (1, 103), (1, 106), (1, 107), (1, 108), (1, 109), (1, 110), (1, 105), (1, 104), (1, 127), (1, 128), (1, 129), (1, 130)] (by decide +kernel)
set_option maxRecDepth 20000 in
theorem am_wi5 : ∀ w ∈ wsL_law0_r5, w ∈ lw_tbl := am_tb_all [(1, 132), (1, 133), (1, 134), (1, 131), (1, 143), (1, 146), (1, 147), (1, 148), (1, 149), (1, 154), (1, 153), (1, 150), (1, 152), (1, 151), (1, 164), (1, 165), (1, 166), (1, 167), (1, 168), (1, 171), (1, 172), (1, 173), (1, 174), (1, 175)] (by decide +kernel)
set_option maxRecDepth 20000 in
theorem am_wi6 : ∀ w ∈ wsL_law0_r6, w ∈ lw_tbl := am_tb_all [(1, 170), (1, 169), (1, 192), (1, 193), (1, 194), (1, 195), (1, 196), (1, 197), (1, 198), (6, 117), (6, 118), (6, 119), (6, 120), (6, 121), (6, 122), (6, 123), (6, 124), (6, 125), (6, 132), (6, 134), (6, 136), (6, 137), (2, 151), (2, 152)] (by decide +kernel)
set_option maxRecDepth 20000 in
theorem am_wi7 : ∀ w ∈ wsL_law0_r7, w ∈ lw_tbl := am_tb_all [(1, 0), (2, 153), (2, 154), (2, 234), (2, 235), (2, 236), (2, 237), (2, 238), (2, 239), (3, 0), (3, 1), (3, 2), (3, 3), (3, 4), (2, 141), (2, 142), (2, 143), (2, 144), (2, 145), (2, 146), (2, 147), (2, 148), (2, 150), (2, 149)] (by decide +kernel)
set_option maxRecDepth 20000 in
theorem am_wi8 : ∀ w ∈ wsL_law0_r8, w ∈ lw_tbl := am_tb_all [(1, 19), (3, 5), (3, 6), (3, 7), (3, 8), (3, 10), (3, 11), (3, 12), (3, 13), (3, 14), (3, 15), (3, 16), (3, 17), (3, 18), (3, 20), (3, 21), (3, 22), (3, 23), (3, 24), (3, 25), (3, 26), (3, 27), (3, 28), (2, 11)] (by decide +kernel)
set_option maxRecDepth 20000 in
theorem am_wi9 : ∀ w ∈ wsL_law0_r9, w ∈ lw_tbl := am_tb_all [(2, 12), (2, 13), (2, 14), (2, 15), (2, 16), (2, 17), (3, 29), (3, 30), (3, 31), (3, 32), (3, 33), (2, 107), (2, 108), (2, 109), (3, 34), (3, 35), (3, 36), (3, 37), (3, 38), (3, 39), (3, 40), (3, 41), (3, 42), (3, 44)] (by decide +kernel)
set_option maxRecDepth 20000 in
theorem am_wi10 : ∀ w ∈ wsL_law0_r10, w ∈ lw_tbl := am_tb_all [(0, 4), (3, 45), (3, 46), (1, 16), (3, 59), (1, 20), (3, 79), (1, 21), (3, 75), (3, 76), (3, 77), (3, 78), (3, 95), (3, 96), (3, 97), (3, 98), (3, 99), (3, 100), (3, 101), (6, 189), (6, 190), (6, 191), (6, 192), (6, 193)] (by decide +kernel)
set_option maxRecDepth 20000 in
theorem am_wi11 : ∀ w ∈ wsL_law0_r11, w ∈ lw_tbl := am_tb_all [(6, 195), (0, 19), (6, 196), (6, 127), (6, 197), (6, 198), (6, 199), (6, 200), (6, 202), (0, 20), (6, 203), (6, 204), (6, 205), (6, 206), (6, 207), (6, 208), (6, 209), (6, 210), (6, 212), (0, 21), (6, 213), (6, 214), (6, 216), (0, 22)] (by decide +kernel)
set_option maxRecDepth 20000 in
theorem am_wi12 : ∀ w ∈ wsL_law0_r12, w ∈ lw_tbl := am_tb_all [(6, 217), (6, 128), (6, 129), (6, 130), (6, 218), (6, 220), (0, 23), (6, 221), (6, 222), (6, 224), (0, 24), (6, 225), (6, 226), (6, 228), (0, 25), (6, 229), (6, 126), (6, 185), (6, 186), (6, 187), (6, 188), (3, 102), (3, 103), (3, 104)] (by decide +kernel)
set_option maxRecDepth 20000 in
theorem am_wi13 : ∀ w ∈ wsL_law0_r13, w ∈ lw_tbl := am_tb_all [(3, 105), (3, 106), (3, 107), (3, 108), (3, 109), (3, 110), (3, 111), (3, 112), (3, 113), (3, 114), (3, 115), (3, 116), (6, 230), (6, 231), (6, 232), (6, 233), (6, 234), (6, 236), (0, 26), (6, 237), (6, 238), (7, 0), (0, 27), (7, 1)] (by decide +kernel)
set_option maxRecDepth 20000 in
theorem am_wi14 : ∀ w ∈ wsL_law0_r14, w ∈ lw_tbl := am_tb_all [(3, 117), (3, 118), (3, 119), (3, 120), (3, 121), (3, 122), (3, 123), (3, 124), (3, 125), (3, 126), (3, 127), (3, 128), (3, 129), (3, 130), (3, 131), (7, 2), (7, 3), (7, 4), (7, 5), (7, 6), (7, 8), (0, 28), (7, 9), (7, 10)] (by decide +kernel)
set_option maxRecDepth 20000 in
theorem am_wi15 : ∀ w ∈ wsL_law0_r15, w ∈ lw_tbl := am_tb_all [(7, 12), (0, 29), (7, 13), (3, 132), (3, 133), (3, 134), (3, 135), (3, 136), (3, 137), (3, 138), (3, 139), (3, 140), (3, 141), (3, 142), (3, 143), (3, 144), (3, 145), (3, 146), (2, 10), (3, 147), (3, 148), (3, 149), (3, 150), (3, 151)] (by decide +kernel)
set_option maxRecDepth 20000 in
theorem am_wi16 : ∀ w ∈ wsL_law0_r16, w ∈ lw_tbl := am_tb_all [(2, 35), (2, 36), (2, 37), (3, 152), (3, 153), (3, 154), (3, 155), (2, 22), (2, 23), (2, 24), (2, 25), (3, 156), (3, 157), (2, 47), (2, 48), (2, 49), (7, 14), (7, 15), (7, 16), (7, 17), (7, 18), (7, 20), (0, 30), (7, 21)] (by decide +kernel)
set_option maxRecDepth 20000 in
theorem am_wi17 : ∀ w ∈ wsL_law0_r17, w ∈ lw_tbl := am_tb_all [(7, 22), (7, 24), (0, 31), (7, 25), (7, 26), (7, 28), (0, 32), (7, 29), (7, 30), (7, 32), (0, 33), (7, 33), (7, 34), (7, 36), (0, 34), (7, 37), (7, 38), (7, 40), (0, 35), (7, 41), (7, 42), (7, 44), (0, 36), (7, 45)] (by decide +kernel)
set_option maxRecDepth 20000 in
theorem am_wi18 : ∀ w ∈ wsL_law0_r18, w ∈ lw_tbl := am_tb_all [(3, 158), (3, 159), (3, 160), (3, 161), (3, 162), (3, 163), (3, 164), (3, 165), (3, 166), (3, 167), (3, 168), (7, 46), (7, 47), (7, 48), (7, 49), (7, 50), (7, 52), (0, 37), (7, 53), (3, 169), (3, 170), (3, 171), (3, 172), (3, 173)] (by decide +kernel)
set_option maxRecDepth 20000 in
theorem am_wi19 : ∀ w ∈ wsL_law0_r19, w ∈ lw_tbl := am_tb_all [(3, 174), (3, 175), (3, 176), (3, 177), (3, 178), (3, 179), (3, 180), (2, 97), (2, 98), (2, 99), (2, 100), (7, 54), (7, 55), (7, 56), (7, 57), (7, 58), (7, 60), (0, 38), (7, 61), (7, 62), (7, 64), (0, 39), (7, 65), (3, 181)] (by decide +kernel)
set_option maxRecDepth 20000 in
theorem am_wi20 : ∀ w ∈ wsL_law0_r20, w ∈ lw_tbl := am_tb_all [(3, 182), (3, 183), (3, 184), (3, 185), (3, 186), (3, 187), (3, 188), (3, 189), (3, 190), (3, 191), (3, 192), (2, 19), (2, 20), (2, 21), (7, 66), (7, 67), (7, 68), (7, 69), (7, 70), (7, 72), (0, 40), (7, 73), (7, 74), (7, 76)] (by decide +kernel)
set_option maxRecDepth 20000 in
theorem am_wi21 : ∀ w ∈ wsL_law0_r21, w ∈ lw_tbl := am_tb_all [(0, 41), (7, 77), (3, 193), (3, 194), (3, 195), (3, 196), (3, 197), (3, 198), (3, 199), (3, 200), (3, 201), (3, 202), (3, 203), (7, 78), (7, 79), (7, 80), (7, 81), (7, 82), (7, 84), (0, 42), (7, 85), (3, 204), (3, 205), (3, 206)] (by decide +kernel)
set_option maxRecDepth 20000 in
theorem am_wi22 : ∀ w ∈ wsL_law0_r22, w ∈ lw_tbl := am_tb_all [(3, 207), (3, 208), (3, 209), (3, 210), (3, 211), (3, 212), (3, 213), (3, 214), (3, 215), (3, 216), (3, 217), (3, 218), (3, 219), (3, 220), (3, 221), (3, 222), (3, 223), (2, 124), (2, 125), (2, 126), (3, 224), (2, 102), (2, 103), (2, 104)] (by decide +kernel)
set_option maxRecDepth 20000 in
theorem am_wi23 : ∀ w ∈ wsL_law0_r23, w ∈ lw_tbl := am_tb_all [(2, 46), (2, 105), (2, 55), (2, 56), (2, 57), (2, 58), (2, 59), (2, 60), (2, 61), (3, 225), (3, 227), (0, 5), (3, 228), (3, 229), (3, 231), (0, 6), (3, 232), (3, 233), (3, 235), (0, 7), (3, 236), (3, 237), (3, 239), (0, 8)] (by decide +kernel)
set_option maxRecDepth 20000 in
theorem am_wi24 : ∀ w ∈ wsL_law0_r24, w ∈ lw_tbl := am_tb_all [(4, 0), (4, 1), (2, 89), (2, 90), (2, 91), (2, 18), (2, 92), (2, 93), (2, 94), (2, 95), (2, 96), (2, 34), (7, 86), (7, 87), (7, 88), (7, 89), (7, 90), (7, 92), (0, 43), (7, 93), (7, 94), (7, 96), (0, 44), (7, 97)] (by decide +kernel)
set_option maxRecDepth 20000 in
theorem am_wi25 : ∀ w ∈ wsL_law0_r25, w ∈ lw_tbl := am_tb_all [(7, 98), (7, 100), (0, 45), (7, 101), (7, 102), (7, 104), (0, 46), (7, 105), (7, 106), (7, 108), (0, 47), (7, 109), (7, 110), (7, 112), (0, 48), (7, 113), (7, 114), (7, 116), (0, 49), (7, 117), (7, 118), (7, 120), (0, 50), (7, 121)] (by decide +kernel)
set_option maxRecDepth 20000 in
theorem am_wi26 : ∀ w ∈ wsL_law0_r26, w ∈ lw_tbl := am_tb_all [(4, 2), (4, 3), (4, 4), (4, 5), (4, 6), (4, 7), (4, 8), (4, 9), (4, 10), (4, 11), (4, 12), (4, 13), (4, 14), (4, 15), (4, 16), (4, 17), (7, 122), (7, 123), (7, 124), (7, 125), (7, 126), (7, 128), (0, 51), (7, 129)] (by decide +kernel)
set_option maxRecDepth 20000 in
theorem am_wi27 : ∀ w ∈ wsL_law0_r27, w ∈ lw_tbl := am_tb_all [(7, 130), (7, 132), (0, 52), (7, 133), (4, 18), (4, 19), (4, 20), (4, 21), (4, 22), (4, 23), (4, 24), (4, 25), (4, 26), (4, 27), (4, 28), (4, 29), (2, 76), (2, 77), (2, 78), (4, 30), (4, 32), (0, 9), (4, 33), (7, 134)] (by decide +kernel)
set_option maxRecDepth 20000 in
theorem am_wi28 : ∀ w ∈ wsL_law0_r28, w ∈ lw_tbl := am_tb_all [(7, 135), (7, 136), (7, 137), (7, 138), (7, 140), (0, 53), (7, 141), (7, 142), (7, 144), (0, 54), (7, 145), (4, 34), (4, 35), (4, 36), (4, 37), (4, 38), (4, 39), (4, 40), (4, 41), (4, 42), (4, 43), (4, 44), (4, 45), (7, 146)] (by decide +kernel)
set_option maxRecDepth 20000 in
theorem am_wi29 : ∀ w ∈ wsL_law0_r29, w ∈ lw_tbl := am_tb_all [(7, 147), (7, 148), (7, 149), (7, 150), (7, 152), (0, 55), (7, 153), (4, 46), (4, 47), (4, 48), (4, 49), (4, 50), (4, 51), (4, 52), (4, 53), (4, 54), (4, 55), (4, 56), (4, 57), (4, 58), (4, 59), (4, 60), (7, 154), (7, 155)] (by decide +kernel)
set_option maxRecDepth 20000 in
theorem am_wi30 : ∀ w ∈ wsL_law0_r30, w ∈ lw_tbl := am_tb_all [(7, 156), (7, 157), (7, 158), (7, 160), (0, 56), (7, 161), (7, 162), (7, 164), (0, 57), (7, 165), (4, 62), (4, 63), (4, 64), (4, 65), (4, 66), (4, 67), (4, 68), (4, 69), (4, 71), (0, 10), (4, 72), (4, 73), (4, 75), (4, 76)] (by decide +kernel)
set_option maxRecDepth 20000 in
theorem am_wi31 : ∀ w ∈ wsL_law0_r31, w ∈ lw_tbl := am_tb_all [(4, 77), (7, 166), (7, 167), (7, 168), (7, 169), (4, 79), (4, 80), (4, 81), (4, 82), (4, 83), (4, 84), (4, 85), (4, 86), (4, 88), (4, 89), (4, 90), (7, 170), (7, 171), (7, 172), (7, 173), (4, 92), (4, 93), (4, 94), (4, 95)] (by decide +kernel)
set_option maxRecDepth 20000 in
theorem am_wi32 : ∀ w ∈ wsL_law0_r32, w ∈ lw_tbl := am_tb_all [(4, 96), (4, 97), (4, 98), (4, 99), (4, 101), (4, 102), (4, 103), (4, 104), (4, 105), (7, 174), (7, 175), (7, 176), (7, 177), (7, 178), (7, 180), (0, 58), (7, 181), (4, 107), (4, 108), (4, 109), (4, 110), (4, 111), (4, 112), (4, 113)] (by decide +kernel)
set_option maxRecDepth 20000 in
theorem am_wi33 : ∀ w ∈ wsL_law0_r33, w ∈ lw_tbl := am_tb_all [(4, 114), (7, 182), (7, 183), (7, 184), (7, 185), (4, 115), (4, 116), (4, 117), (4, 118), (4, 119), (4, 120), (4, 121), (4, 122), (7, 186), (7, 187), (7, 188), (7, 189), (4, 123), (4, 124), (4, 125), (4, 126), (4, 127), (4, 128), (4, 129)] (by decide +kernel)
set_option maxRecDepth 20000 in
theorem am_wi34 : ∀ w ∈ wsL_law0_r34, w ∈ lw_tbl := am_tb_all [(4, 130), (4, 131), (4, 132), (4, 133), (4, 134), (4, 136), (2, 84), (2, 85), (2, 86), (2, 87), (2, 88), (2, 101), (2, 106), (4, 137), (4, 138), (4, 139), (4, 140), (2, 110), (2, 112), (0, 0), (2, 113), (2, 114), (2, 115), (2, 116)] (by decide +kernel)
set_option maxRecDepth 20000 in
theorem am_wi35 : ∀ w ∈ wsL_law0_r35, w ∈ lw_tbl := am_tb_all [(2, 117), (2, 118), (2, 120), (0, 1), (2, 121), (2, 122), (2, 123), (2, 127), (2, 128), (2, 129), (4, 141), (4, 142), (4, 143), (4, 144), (1, 22), (7, 190), (7, 191), (7, 192), (7, 193), (7, 194), (7, 196), (0, 59), (7, 197), (7, 198)] (by decide +kernel)
set_option maxRecDepth 20000 in
theorem am_wi36 : ∀ w ∈ wsL_law0_r36, w ∈ lw_tbl := am_tb_all [(7, 200), (0, 60), (7, 201), (7, 202), (7, 204), (0, 61), (7, 205), (4, 160), (4, 161), (4, 162), (4, 163), (4, 164), (4, 165), (4, 166), (4, 167), (4, 168), (4, 169), (4, 170), (2, 130), (2, 132), (0, 2), (2, 133), (2, 134), (7, 206)] (by decide +kernel)
set_option maxRecDepth 20000 in
theorem am_wi37 : ∀ w ∈ wsL_law0_r37, w ∈ lw_tbl := am_tb_all [(7, 207), (7, 208), (7, 209), (4, 171), (4, 172), (4, 173), (4, 174), (4, 175), (4, 176), (4, 177), (7, 210), (7, 211), (7, 212), (7, 213), (4, 178), (4, 179), (4, 180), (4, 181), (4, 182), (4, 183), (4, 184), (7, 214), (7, 215), (7, 216)] (by decide +kernel)
set_option maxRecDepth 20000 in
theorem am_wi38 : ∀ w ∈ wsL_law0_r38, w ∈ lw_tbl := am_tb_all [(7, 217), (4, 185), (4, 186), (4, 187), (4, 188), (4, 189), (4, 190), (4, 191), (4, 192), (4, 193), (4, 194), (4, 195), (4, 196), (4, 198), (0, 11), (4, 199), (7, 218), (7, 219), (7, 220), (7, 221), (7, 222), (7, 224), (0, 62), (7, 225)] (by decide +kernel)
set_option maxRecDepth 20000 in
theorem am_wi39 : ∀ w ∈ wsL_law0_r39, w ∈ lw_tbl := am_tb_all [(7, 226), (7, 227), (7, 228), (2, 2), (2, 3), (2, 4), (2, 5), (2, 6), (2, 7), (2, 8), (2, 9), (7, 229), (7, 230), (7, 231), (7, 232), (2, 26), (2, 27), (2, 28), (2, 29), (2, 30), (2, 31), (2, 32), (2, 33), (7, 233)] (by decide +kernel)
set_option maxRecDepth 20000 in
theorem am_wi40 : ∀ w ∈ wsL_law0_r40, w ∈ lw_tbl := am_tb_all [(7, 234), (7, 235), (7, 236), (2, 38), (2, 39), (2, 40), (2, 41), (2, 42), (2, 43), (2, 44), (2, 45), (7, 237), (7, 238), (7, 239), (8, 0), (8, 1), (2, 50), (2, 51), (2, 52), (2, 53), (2, 54), (8, 2), (8, 3), (8, 4)] (by decide +kernel)
set_option maxRecDepth 20000 in
theorem am_wi41 : ∀ w ∈ wsL_law0_r41, w ∈ lw_tbl := am_tb_all [(8, 5), (4, 200), (4, 201), (4, 202), (4, 203), (4, 204), (4, 205), (4, 206), (2, 135), (4, 207), (4, 208), (4, 209), (4, 210), (4, 211), (4, 213), (0, 12), (4, 214), (4, 215), (4, 217), (0, 13), (4, 218), (8, 6), (8, 7), (8, 8)] (by decide +kernel)
set_option maxRecDepth 20000 in
theorem am_wi42 : ∀ w ∈ wsL_law0_r42, w ∈ lw_tbl := am_tb_all [(8, 9), (8, 10), (8, 12), (0, 63), (8, 13), (8, 14), (8, 16), (0, 64), (8, 17), (8, 18), (8, 20), (0, 65), (8, 21), (4, 220), (4, 221), (4, 222), (4, 223), (4, 224), (4, 225), (4, 226), (4, 227), (4, 228), (4, 229), (4, 230)] (by decide +kernel)
set_option maxRecDepth 20000 in
theorem am_wi43 : ∀ w ∈ wsL_law0_r43, w ∈ lw_tbl := am_tb_all [(4, 231), (4, 233), (0, 14), (4, 234), (4, 235), (8, 22), (8, 23), (8, 24), (8, 25), (4, 236), (4, 237), (4, 238), (4, 239), (5, 0), (5, 1), (5, 2), (5, 3), (5, 4), (5, 5), (5, 6), (5, 7), (5, 9), (0, 15), (5, 10)] (by decide +kernel)
set_option maxRecDepth 20000 in
theorem am_wi44 : ∀ w ∈ wsL_law0_r44, w ∈ lw_tbl := am_tb_all [(8, 26), (8, 27), (8, 28), (8, 29), (8, 30), (2, 62), (2, 63), (2, 64), (2, 65), (2, 66), (2, 67), (2, 68), (2, 69), (2, 70), (2, 71), (2, 72), (2, 73), (2, 74), (2, 75), (2, 79), (2, 80), (2, 81), (2, 82), (2, 83)] (by decide +kernel)
set_option maxRecDepth 20000 in
theorem am_wi45 : ∀ w ∈ wsL_law0_r45, w ∈ lw_tbl := am_tb_all [(8, 31), (8, 32), (8, 33), (8, 34), (8, 35), (8, 37), (0, 66), (8, 38), (8, 39), (8, 41), (0, 67), (8, 42), (8, 43), (8, 45), (0, 68), (8, 46), (5, 12), (5, 13), (5, 14), (5, 15), (5, 16), (5, 17), (5, 18), (5, 19)] (by decide +kernel)
set_option maxRecDepth 20000 in
theorem am_wi46 : ∀ w ∈ wsL_law0_r46, w ∈ lw_tbl := am_tb_all [(5, 25), (1, 23), (5, 20), (5, 21), (5, 22), (5, 23), (5, 24), (5, 41), (5, 42), (5, 43), (5, 44), (8, 84), (8, 85), (8, 86), (8, 87), (6, 138), (5, 45), (5, 46), (5, 47), (5, 48), (5, 49), (5, 50), (5, 51), (5, 52)] (by decide +kernel)
set_option maxRecDepth 20000 in
theorem am_wi47 : ∀ w ∈ wsL_law0_r47, w ∈ lw_tbl := am_tb_all [(5, 53), (5, 54), (5, 55), (5, 56), (5, 58), (0, 16), (5, 59), (5, 60), (5, 61), (5, 62), (5, 76), (5, 78), (0, 17), (5, 79), (5, 139), (5, 80), (5, 81), (5, 82), (1, 18), (5, 83), (8, 201), (5, 84), (5, 85), (5, 86)] (by decide +kernel)
set_option maxRecDepth 20000 in
theorem am_wi48 : ∀ w ∈ wsL_law0_r48, w ∈ lw_tbl := am_tb_all [(5, 87), (5, 88), (8, 202), (5, 90), (5, 91), (5, 92), (5, 93), (5, 94), (5, 95), (5, 96), (5, 97), (5, 98), (5, 99), (1, 24), (5, 100), (5, 101), (5, 102), (5, 103), (5, 104), (5, 106), (5, 107), (1, 25), (5, 108), (5, 109)] (by decide +kernel)
set_option maxRecDepth 20000 in
theorem am_wi49 : ∀ w ∈ wsL_law0_r49, w ∈ lw_tbl := am_tb_all [(5, 110), (1, 26), (5, 111), (5, 112), (5, 113), (5, 114), (5, 115), (5, 116), (5, 117), (5, 118), (5, 119), (5, 120), (5, 121), (5, 122), (5, 124), (5, 126), (5, 128), (5, 129), (5, 130), (5, 131), (5, 132), (5, 133), (5, 134), (5, 135)] (by decide +kernel)
set_option maxRecDepth 20000 in
theorem am_wi50 : ∀ w ∈ wsL_law0_r50, w ∈ lw_tbl := am_tb_all [(5, 136), (5, 137), (5, 138), (5, 140), (5, 142), (0, 18), (5, 143), (5, 144), (5, 145), (5, 146), (5, 147), (5, 148), (5, 149), (5, 150), (5, 151), (5, 152), (5, 153), (5, 155), (5, 156), (5, 157), (5, 158), (5, 159), (5, 160), (5, 161)] (by decide +kernel)
set_option maxRecDepth 20000 in
theorem am_wi51 : ∀ w ∈ wsL_law0_r51, w ∈ lw_tbl := am_tb_all [(5, 162), (5, 163), (5, 164), (5, 165), (5, 166), (5, 167), (5, 168), (5, 169), (5, 170), (5, 171), (5, 172), (5, 173), (5, 174), (5, 175), (5, 176), (5, 177), (5, 178), (5, 179), (5, 180), (5, 181), (5, 182), (5, 183), (5, 184), (5, 185)] (by decide +kernel)
set_option maxRecDepth 20000 in
theorem am_wi52 : ∀ w ∈ wsL_law0_r52, w ∈ lw_tbl := am_tb_all [(5, 186), (5, 187), (5, 188), (5, 189), (5, 190), (5, 191), (5, 192), (5, 193), (5, 194), (5, 195), (8, 88), (8, 89), (8, 90), (8, 91), (6, 139), (6, 140), (8, 92), (8, 94), (0, 72), (8, 95), (8, 96), (8, 98), (0, 73), (8, 99)] (by decide +kernel)
set_option maxRecDepth 20000 in
theorem am_wi53 : ∀ w ∈ wsL_law0_r53, w ∈ lw_tbl := am_tb_all [(6, 141), (8, 100), (8, 102), (0, 74), (8, 103), (8, 104), (8, 105), (8, 106), (8, 120), (8, 122), (0, 75), (8, 123), (8, 124), (8, 125), (8, 126), (8, 127), (8, 128), (8, 129), (8, 131), (0, 76), (8, 132), (8, 133), (8, 135), (0, 77)] (by decide +kernel)
set_option maxRecDepth 20000 in
theorem am_wi54 : ∀ w ∈ wsL_law0_r54, w ∈ lw_tbl := am_tb_all [(8, 136), (8, 137), (8, 139), (0, 78), (8, 140), (8, 141), (8, 143), (0, 79), (8, 144), (8, 145), (8, 147), (0, 80), (8, 148), (8, 149), (8, 151), (0, 81), (8, 152), (8, 153), (8, 155), (0, 82), (8, 156), (6, 131), (5, 197), (5, 198)] (by decide +kernel)
set_option maxRecDepth 20000 in
theorem am_wi55 : ∀ w ∈ wsL_law0_r55, w ∈ lw_tbl := am_tb_all [(5, 199), (5, 200), (5, 201), (5, 202), (5, 203), (8, 157), (8, 158), (8, 159), (8, 160), (5, 205), (5, 206), (5, 207), (5, 208), (5, 209), (5, 210), (5, 211), (5, 212), (5, 213), (5, 214), (5, 215), (5, 216), (5, 217), (5, 218), (5, 219)] (by decide +kernel)
set_option maxRecDepth 20000 in
theorem am_wi56 : ∀ w ∈ wsL_law0_r56, w ∈ lw_tbl := am_tb_all [(5, 221), (5, 222), (5, 223), (5, 224), (5, 225), (5, 226), (5, 227), (5, 228), (5, 229), (5, 230), (5, 231), (5, 232), (5, 233), (5, 234), (5, 235), (5, 236), (8, 161), (8, 162), (8, 163), (8, 164), (5, 237), (5, 238), (5, 239), (6, 0)] (by decide +kernel)
set_option maxRecDepth 20000 in
theorem am_wi57 : ∀ w ∈ wsL_law0_r57, w ∈ lw_tbl := am_tb_all [(6, 1), (6, 2), (6, 3), (6, 4), (6, 5), (6, 6), (6, 7), (6, 8), (6, 9), (6, 10), (6, 11), (6, 12), (6, 13), (6, 14), (6, 15), (6, 16), (6, 17), (6, 18), (6, 19), (6, 20), (8, 64), (8, 65), (8, 66), (8, 67)] (by decide +kernel)
set_option maxRecDepth 20000 in
theorem am_wi58 : ∀ w ∈ wsL_law0_r58, w ∈ lw_tbl := am_tb_all [(6, 135), (8, 68), (8, 70), (0, 70), (8, 71), (8, 72), (8, 74), (0, 71), (8, 75), (6, 21), (6, 22), (6, 23), (6, 24), (6, 25), (6, 26), (6, 27), (6, 28), (6, 29), (8, 76), (8, 77), (8, 78), (8, 79), (6, 30), (6, 31)] (by decide +kernel)
set_option maxRecDepth 20000 in
theorem am_wi59 : ∀ w ∈ wsL_law0_r59, w ∈ lw_tbl := am_tb_all [(6, 32), (6, 33), (6, 34), (6, 35), (6, 36), (6, 38), (8, 80), (8, 81), (8, 82), (8, 83), (6, 39), (6, 40), (6, 41), (6, 42), (6, 43), (6, 44), (6, 45), (6, 46), (6, 47), (6, 48), (6, 49), (6, 50), (6, 51), (6, 52)] (by decide +kernel)
set_option maxRecDepth 20000 in
theorem am_wi60 : ∀ w ∈ wsL_law0_r60, w ∈ lw_tbl := am_tb_all [(6, 53), (6, 54), (6, 55), (8, 47), (8, 48), (8, 49), (8, 50), (8, 51), (8, 53), (0, 69), (8, 54), (6, 57), (6, 58), (6, 59), (6, 60), (6, 74), (6, 75), (6, 76), (6, 77), (6, 78), (1, 27), (8, 55), (8, 56), (8, 57)] (by decide +kernel)
set_option maxRecDepth 20000 in
theorem am_wi61 : ∀ w ∈ wsL_law0_r61, w ∈ lw_tbl := am_tb_all [(8, 58), (8, 59), (6, 81), (6, 82), (6, 83), (6, 84), (6, 85), (6, 86), (6, 87), (8, 60), (8, 61), (8, 62), (8, 63), (6, 88), (6, 89), (6, 90), (6, 91), (6, 92), (6, 93), (6, 94), (6, 96), (6, 97), (6, 98), (6, 99)] (by decide +kernel)
set_option maxRecDepth 20000 in
theorem am_wi62 : ∀ w ∈ wsL_law0_r62, w ∈ lw_tbl := am_tb_all [(6, 100), (6, 101), (8, 165), (8, 166), (8, 167), (8, 168), (2, 136), (2, 137), (2, 138), (2, 139), (2, 140), (8, 169), (8, 170), (8, 171), (8, 172), (6, 133), (6, 102), (6, 103), (6, 104), (6, 105), (6, 106), (6, 107), (6, 108), (6, 110)] (by decide +kernel)
set_option maxRecDepth 20000 in
theorem am_wi63 : ∀ w ∈ wsL_law0_r63, w ∈ lw_tbl := am_tb_all [(6, 111), (6, 112), (6, 113), (6, 114), (8, 173), (8, 174), (8, 175), (8, 176)] (by decide +kernel)
def am_Wc : Nat → List Cond := fun k => match k with
  | 0 => wsL_law0_r1
  | 1 => wsL_law0_r2
  | 2 => wsL_law0_r3
  | 3 => wsL_law0_r4
  | 4 => wsL_law0_r5
  | 5 => wsL_law0_r6
  | 6 => wsL_law0_r7
  | 7 => wsL_law0_r8
  | 8 => wsL_law0_r9
  | 9 => wsL_law0_r10
  | 10 => wsL_law0_r11
  | 11 => wsL_law0_r12
  | 12 => wsL_law0_r13
  | 13 => wsL_law0_r14
  | 14 => wsL_law0_r15
  | 15 => wsL_law0_r16
  | 16 => wsL_law0_r17
  | 17 => wsL_law0_r18
  | 18 => wsL_law0_r19
  | 19 => wsL_law0_r20
  | 20 => wsL_law0_r21
  | 21 => wsL_law0_r22
  | 22 => wsL_law0_r23
  | 23 => wsL_law0_r24
  | 24 => wsL_law0_r25
  | 25 => wsL_law0_r26
  | 26 => wsL_law0_r27
  | 27 => wsL_law0_r28
  | 28 => wsL_law0_r29
  | 29 => wsL_law0_r30
  | 30 => wsL_law0_r31
  | 31 => wsL_law0_r32
  | 32 => wsL_law0_r33
  | 33 => wsL_law0_r34
  | 34 => wsL_law0_r35
  | 35 => wsL_law0_r36
  | 36 => wsL_law0_r37
  | 37 => wsL_law0_r38
  | 38 => wsL_law0_r39
  | 39 => wsL_law0_r40
  | 40 => wsL_law0_r41
  | 41 => wsL_law0_r42
  | 42 => wsL_law0_r43
  | 43 => wsL_law0_r44
  | 44 => wsL_law0_r45
  | 45 => wsL_law0_r46
  | 46 => wsL_law0_r47
  | 47 => wsL_law0_r48
  | 48 => wsL_law0_r49
  | 49 => wsL_law0_r50
  | 50 => wsL_law0_r51
  | 51 => wsL_law0_r52
  | 52 => wsL_law0_r53
  | 53 => wsL_law0_r54
  | 54 => wsL_law0_r55
  | 55 => wsL_law0_r56
  | 56 => wsL_law0_r57
  | 57 => wsL_law0_r58
  | 58 => wsL_law0_r59
  | 59 => wsL_law0_r60
  | 60 => wsL_law0_r61
  | 61 => wsL_law0_r62
  | 62 => wsL_law0_r63
  | _ => []
theorem am_Wc_in : ∀ (k : Nat) (w : Cond), w ∈ am_Wc k → w ∈ lw_tbl := by
  intro k w h
  match k, h with
  | 0, h => exact am_wi1 w h
  | 1, h => exact am_wi2 w h
  | 2, h => exact am_wi3 w h
  | 3, h => exact am_wi4 w h
  | 4, h => exact am_wi5 w h
  | 5, h => exact am_wi6 w h
  | 6, h => exact am_wi7 w h
  | 7, h => exact am_wi8 w h
  | 8, h => exact am_wi9 w h
  | 9, h => exact am_wi10 w h
  | 10, h => exact am_wi11 w h
  | 11, h => exact am_wi12 w h
  | 12, h => exact am_wi13 w h
  | 13, h => exact am_wi14 w h
  | 14, h => exact am_wi15 w h
  | 15, h => exact am_wi16 w h
  | 16, h => exact am_wi17 w h
  | 17, h => exact am_wi18 w h
  | 18, h => exact am_wi19 w h
  | 19, h => exact am_wi20 w h
  | 20, h => exact am_wi21 w h
  | 21, h => exact am_wi22 w h
  | 22, h => exact am_wi23 w h
  | 23, h => exact am_wi24 w h
  | 24, h => exact am_wi25 w h
  | 25, h => exact am_wi26 w h
  | 26, h => exact am_wi27 w h
  | 27, h => exact am_wi28 w h
  | 28, h => exact am_wi29 w h
  | 29, h => exact am_wi30 w h
  | 30, h => exact am_wi31 w h
  | 31, h => exact am_wi32 w h
  | 32, h => exact am_wi33 w h
  | 33, h => exact am_wi34 w h
  | 34, h => exact am_wi35 w h
  | 35, h => exact am_wi36 w h
  | 36, h => exact am_wi37 w h
  | 37, h => exact am_wi38 w h
  | 38, h => exact am_wi39 w h
  | 39, h => exact am_wi40 w h
  | 40, h => exact am_wi41 w h
  | 41, h => exact am_wi42 w h
  | 42, h => exact am_wi43 w h
  | 43, h => exact am_wi44 w h
  | 44, h => exact am_wi45 w h
  | 45, h => exact am_wi46 w h
  | 46, h => exact am_wi47 w h
  | 47, h => exact am_wi48 w h
  | 48, h => exact am_wi49 w h
  | 49, h => exact am_wi50 w h
  | 50, h => exact am_wi51 w h
  | 51, h => exact am_wi52 w h
  | 52, h => exact am_wi53 w h
  | 53, h => exact am_wi54 w h
  | 54, h => exact am_wi55 w h
  | 55, h => exact am_wi56 w h
  | 56, h => exact am_wi57 w h
  | 57, h => exact am_wi58 w h
  | 58, h => exact am_wi59 w h
  | 59, h => exact am_wi60 w h
  | 60, h => exact am_wi61 w h
  | 61, h => exact am_wi62 w h
  | 62, h => exact am_wi63 w h
  | k + 63, h => exact absurd h List.not_mem_nil
