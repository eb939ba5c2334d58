/-! the law's words, in lists: each lies in lw_tbl, by its place; written by program -/
def am_tb : Nat → List Cond := fun k => match k with
  | 0 => k2_sels lw_privs
  | 1 => tables_1_1
  | 2 => tables_1_2
  | 3 => tables_1_3
  | 4 => tables_1_4
  | 5 => tables_1_5
  | 6 => tables_1_6
  | 7 => tables_1_7
  | _ => []
theorem am_tb_in : ∀ (k : Nat) (w : Cond), w ∈ am_tb k → w ∈ lw_tbl := by
  intro k w h
  unfold lw_tbl tables_1
  match k, h with
  | 0, h => exact List.mem_append_left _ h
  | 1, h => exact List.mem_append_right _ (List.mem_append_left _ h)
  | 2, h => exact List.mem_append_right _ (List.mem_append_right _ (List.mem_append_left _ h))
  | 3, h => exact List.mem_append_right _ (List.mem_append_right _ (List.mem_append_right _ (List.mem_append_left _ h)))
  | 4, h => exact List.mem_append_right _ (List.mem_append_right _ (List.mem_append_right _ (List.mem_append_right _ (List.mem_append_left _ h))))
  | 5, h => exact List.mem_append_right _ (List.mem_append_right _ (List.mem_append_right _ (List.mem_append_right _ (List.mem_append_right _ (List.mem_append_left _ h)))))
  | 6, h => exact List.mem_append_right _ (List.mem_append_right _ (List.mem_append_right _ (List.mem_append_right _ (List.mem_append_right _ (List.mem_append_right _ (List.mem_append_left _ h))))))
  | 7, h => exact List.mem_append_right _ (List.mem_append_right _ (List.mem_append_right _ (List.mem_append_right _ (List.mem_append_right _ (List.mem_append_right _ (List.mem_append_right _ (h)))))))
  | k + 8, h => exact absurd h List.not_mem_nil
theorem am_tb_all {l : List Cond} (ps : List (Nat × Nat)) (h : l.map some = ps.map (fun q => (am_tb q.1)[q.2]?)) : ∀ w ∈ l, w ∈ lw_tbl := by
  intro w hw
  have h1 : some w ∈ l.map some := List.mem_map.mpr ⟨w, hw, rfl⟩
  rw [h] at h1
  obtain ⟨q, -, hq⟩ := List.mem_map.mp h1
  exact am_tb_in q.1 w (List.mem_of_getElem? hq)
set_option maxRecDepth 20000 in
theorem am_wi1 : ∀ w ∈ wsL_law0_r1, w ∈ lw_tbl := am_tb_all [(7, 25), (4, 217), (3, 186), (3, 187), (1, 0), (3, 188), (3, 189), (2, 11), (1, 1), (3, 190), (3, 191), (3, 192), (3, 193), (1, 95), (1, 96), (3, 194), (3, 88), (1, 2), (4, 121), (3, 215), (2, 236), (1, 5), (4, 122), (4, 11)] (by decide +kernel)
set_option maxRecDepth 20000 in
theorem am_wi2 : ∀ w ∈ wsL_law0_r2, w ∈ lw_tbl := am_tb_all [(1, 193), (1, 7), (4, 123), (4, 37), (4, 38), (1, 8), (4, 124), (4, 55), (3, 200), (1, 3), (4, 125), (4, 126), (4, 57), (4, 58), (1, 9), (4, 127), (4, 75), (4, 76), (1, 10), (4, 128), (4, 129), (4, 102), (4, 103), (1, 11)] (by decide +kernel)
set_option maxRecDepth 20000 in
theorem am_wi3 : ∀ w ∈ wsL_law0_r3, w ∈ lw_tbl := am_tb_all [(4, 130), (4, 131), (3, 196), (3, 197), (3, 198), (3, 199), (3, 211), (3, 201), (3, 202), (3, 203), (3, 204), (3, 205), (1, 164), (1, 4), (1, 165), (3, 210), (3, 206), (3, 216), (3, 217), (3, 218), (3, 219), (3, 220), (3, 221), (1, 6)] (by decide +kernel)
set_option maxRecDepth 20000 in
theorem am_wi4 : ∀ w ∈ wsL_law0_r4, w ∈ lw_tbl := am_tb_all [(4, 5), (4, 4), (3, 223), (3, 224), (3, 225), (3, 226), (3, 229), (3, 231), (3, 233), (4, 12), (4, 13), (4, 14), (4, 15), (4, 16), (4, 19), (4, 20), (4, 21), (4, 22), (4, 23), (4, 18), (4, 17), (4, 40), (4, 41), (4, 42)] (by decide +kernel)
set_option maxRecDepth 20000 in
theorem am_wi5 : ∀ w ∈ wsL_law0_r5, w ∈ lw_tbl := am_tb_all [(4, 43), (4, 45), (4, 46), (4, 47), (4, 44), (4, 56), (4, 59), (4, 60), (4, 61), (4, 62), (4, 67), (4, 66), (4, 63), (4, 65), (4, 64), (4, 77), (4, 78), (4, 79), (4, 80), (4, 81), (4, 84), (4, 85), (4, 86), (4, 87)] (by decide +kernel)
set_option maxRecDepth 20000 in
theorem am_wi6 : ∀ w ∈ wsL_law0_r6, w ∈ lw_tbl := am_tb_all [(4, 88), (4, 83), (4, 82), (4, 105), (4, 106), (4, 107), (4, 108), (4, 109), (4, 110), (4, 111), (3, 177), (3, 178), (3, 179), (3, 185), (3, 180), (3, 181), (3, 182), (3, 183), (3, 184), (4, 155), (4, 156), (4, 157), (2, 164), (2, 185)] (by decide +kernel)
set_option maxRecDepth 20000 in
theorem am_wi7 : ∀ w ∈ wsL_law0_r7, w ∈ lw_tbl := am_tb_all [(2, 95), (2, 160), (2, 210), (2, 211), (4, 158), (4, 159), (4, 160), (4, 161), (2, 100), (2, 101), (2, 102), (2, 103), (2, 104), (2, 82), (2, 83), (2, 84), (2, 85), (2, 86), (2, 87), (2, 88), (2, 89), (2, 91), (2, 90), (1, 18)] (by decide +kernel)
set_option maxRecDepth 20000 in
theorem am_wi8 : ∀ w ∈ wsL_law0_r8, w ∈ lw_tbl := am_tb_all [(4, 162), (4, 163), (4, 164), (4, 165), (1, 64), (1, 65), (1, 66), (1, 67), (1, 68), (2, 195), (2, 196), (2, 197), (2, 198), (2, 200), (2, 201), (2, 202), (2, 203), (2, 110), (2, 111), (2, 112), (2, 113), (2, 109), (1, 41), (1, 42)] (by decide +kernel)
set_option maxRecDepth 20000 in
theorem am_wi9 : ∀ w ∈ wsL_law0_r9, w ∈ lw_tbl := am_tb_all [(1, 43), (1, 44), (1, 45), (1, 46), (1, 47), (2, 114), (2, 115), (2, 116), (2, 117), (2, 118), (1, 183), (1, 184), (1, 185), (2, 206), (2, 207), (2, 208), (2, 209), (2, 123), (2, 124), (2, 125), (2, 126), (2, 127), (2, 129), (0, 5)] (by decide +kernel)
set_option maxRecDepth 20000 in
theorem am_wi10 : ∀ w ∈ wsL_law0_r10, w ∈ lw_tbl := am_tb_all [(2, 130), (1, 69), (1, 15), (2, 61), (1, 19), (2, 137), (1, 20), (2, 133), (2, 134), (2, 135), (2, 136), (2, 153), (2, 154), (2, 155), (2, 156), (2, 157), (2, 158), (2, 159), (2, 92), (2, 93), (2, 94), (2, 96), (2, 97), (2, 98)] (by decide +kernel)
set_option maxRecDepth 20000 in
theorem am_wi11 : ∀ w ∈ wsL_law0_r11, w ∈ lw_tbl := am_tb_all [(2, 99), (2, 105), (2, 106), (2, 107), (2, 108), (2, 119), (2, 120), (2, 121), (2, 122), (4, 167), (4, 168), (4, 169), (4, 170), (4, 171), (4, 172), (4, 173), (4, 174), (4, 175), (4, 176), (4, 177), (4, 178), (4, 179), (4, 180), (4, 181)] (by decide +kernel)
set_option maxRecDepth 20000 in
theorem am_wi12 : ∀ w ∈ wsL_law0_r12, w ∈ lw_tbl := am_tb_all [(1, 40), (2, 194), (2, 14), (2, 15), (2, 16), (3, 16), (1, 167), (1, 168), (1, 169), (3, 6), (2, 22), (2, 23), (2, 24), (1, 52), (1, 53), (1, 54), (1, 55), (2, 205), (3, 11), (1, 152), (1, 153), (1, 154), (4, 182), (4, 183)] (by decide +kernel)
set_option maxRecDepth 20000 in
theorem am_wi13 : ∀ w ∈ wsL_law0_r13, w ∈ lw_tbl := am_tb_all [(4, 184), (4, 185), (4, 186), (4, 187), (4, 188), (4, 189), (4, 190), (4, 191), (4, 192), (3, 2), (3, 3), (3, 4), (3, 5), (4, 193), (4, 194), (4, 195), (4, 196), (4, 197), (4, 198), (4, 199), (4, 200), (4, 201), (4, 202), (4, 203)] (by decide +kernel)
set_option maxRecDepth 20000 in
theorem am_wi14 : ∀ w ∈ wsL_law0_r14, w ∈ lw_tbl := am_tb_all [(4, 204), (1, 160), (1, 161), (1, 162), (1, 163), (2, 161), (2, 162), (2, 163), (2, 186), (2, 187), (2, 188), (2, 189), (2, 190), (2, 191), (2, 192), (2, 193), (2, 204), (1, 49), (1, 50), (1, 51), (4, 205), (4, 206), (4, 207), (4, 208)] (by decide +kernel)
def am_Wo15 : List Cond := [Cond.instanceMethod yX9_dispute, Cond.selects RX9 yX9_dispute yX9_dispute, Cond.code yX9_dispute cX9_dispute 3 (some .int), Cond.methodLink RX9 121 yX0_disputeToll, Cond.instanceMethod yX0_disputeToll, Cond.selects RX0 yX0_disputeToll yX0_disputeToll, Cond.code yX0_disputeToll cX0_disputeToll 3 (some (.object "TrollBridges$Verdict")), Cond.methodLink RX0 92 yX8_isGoat, Cond.instanceMethod yX8_isGoat, Cond.selects RX8 yX8_isGoat yX8_isGoat, Cond.code yX8_isGoat cX8_isGoat 2 (some .boolean), Cond.methodLink RX0 119 yX8_countDisputes, Cond.instanceMethod yX8_countDisputes, Cond.selects RX8 yX8_countDisputes yX8_countDisputes, Cond.code yX8_countDisputes cX8_countDisputes 3 (some .int), Cond.methodLink RX8 70 yX8_isDisputed, Cond.methodLink RL 248 yL_isWell, Cond.static yL_isWell, Cond.initialized RL, Cond.methodLink RL 194 yX9_account, Cond.instanceMethod yX9_account, Cond.selects RX9 yX9_account yX9_account, Cond.code yX9_account cX9_account 2 (some .int), Cond.methodLink RX9 228 yX8_of]
set_option maxRecDepth 20000 in
theorem am_wi15 : ∀ w ∈ am_Wo15, w ∈ lw_tbl := am_tb_all [(4, 209), (4, 210), (4, 211), (4, 212), (4, 213), (4, 214), (4, 215), (2, 223), (2, 224), (2, 225), (2, 226), (4, 216), (2, 32), (2, 33), (2, 34), (2, 35), (6, 181), (6, 182), (1, 0), (2, 25), (2, 26), (2, 27), (2, 28), (2, 29)] (by decide +kernel)
set_option maxRecDepth 20000 in
theorem am_wi16 : ∀ w ∈ wsL_law0_r16, w ∈ lw_tbl := am_tb_all [(2, 30), (1, 179), (1, 180), (1, 181), (2, 31), (2, 36), (2, 37), (2, 38), (2, 39), (1, 159), (2, 41), (2, 42), (2, 43), (2, 44), (1, 48), (2, 45), (2, 46), (2, 47), (2, 48), (1, 166), (2, 49), (2, 50), (2, 51), (2, 52)] (by decide +kernel)
set_option maxRecDepth 20000 in
theorem am_wi17 : ∀ w ∈ wsL_law0_r17, w ∈ lw_tbl := am_tb_all [(2, 53), (2, 54), (2, 55), (2, 56), (2, 0), (2, 1), (2, 2), (2, 3), (2, 57), (2, 58), (2, 59), (2, 60), (6, 166), (6, 167), (6, 168), (6, 169), (6, 170), (6, 172), (2, 228), (2, 229), (2, 230), (6, 173), (6, 174), (6, 175)] (by decide +kernel)
set_option maxRecDepth 20000 in
theorem am_wi18 : ∀ w ∈ wsL_law0_r18, w ∈ lw_tbl := am_tb_all [(6, 176), (6, 156), (6, 157), (6, 158), (6, 159), (6, 160), (6, 162), (6, 163), (1, 156), (1, 157), (1, 158), (6, 164), (6, 150), (6, 151), (6, 152), (6, 153), (2, 8), (2, 10), (0, 4), (2, 12), (2, 13), (2, 18), (2, 20), (6, 154)] (by decide +kernel)
set_option maxRecDepth 20000 in
theorem am_wi19 : ∀ w ∈ wsL_law0_r19, w ∈ lw_tbl := am_tb_all [(6, 184), (6, 185), (6, 186), (6, 187), (6, 188), (1, 171), (1, 172), (1, 173), (1, 151), (1, 174), (1, 175), (1, 176), (1, 177), (1, 178), (6, 189), (6, 190), (6, 191), (6, 192), (6, 193), (1, 148), (1, 149), (1, 150), (1, 155), (6, 194)] (by decide +kernel)
set_option maxRecDepth 20000 in
theorem am_wi20 : ∀ w ∈ wsL_law0_r20, w ∈ lw_tbl := am_tb_all [(6, 195), (6, 196), (6, 197), (6, 198), (6, 199), (6, 200), (3, 45), (6, 201), (6, 202), (6, 203), (6, 204), (1, 60), (1, 61), (1, 62), (1, 63), (1, 142), (1, 143), (1, 144), (1, 145), (1, 146), (1, 147), (1, 170), (1, 182), (3, 50)] (by decide +kernel)
set_option maxRecDepth 20000 in
theorem am_wi21 : ∀ w ∈ wsL_law0_r21, w ∈ lw_tbl := am_tb_all [(3, 51), (3, 52), (3, 53), (1, 190), (1, 192), (0, 1), (1, 194), (1, 195), (1, 196), (1, 197), (1, 198), (1, 199), (1, 201), (0, 2), (1, 202), (1, 203), (1, 204), (1, 205), (1, 206), (1, 207), (1, 208), (1, 209), (1, 210), (3, 54)] (by decide +kernel)
set_option maxRecDepth 20000 in
theorem am_wi22 : ∀ w ∈ wsL_law0_r22, w ∈ lw_tbl := am_tb_all [(3, 55), (3, 56), (3, 57), (1, 21), (6, 205), (6, 206), (6, 207), (6, 208), (6, 209), (6, 210), (6, 211), (6, 212), (6, 213), (6, 214), (6, 215), (6, 216), (6, 218), (0, 18), (6, 219), (6, 220), (6, 221), (6, 222), (6, 223), (6, 224)] (by decide +kernel)
set_option maxRecDepth 20000 in
theorem am_wi23 : ∀ w ∈ wsL_law0_r23, w ∈ lw_tbl := am_tb_all [(6, 225), (6, 226), (6, 227), (6, 228), (6, 229), (6, 230), (6, 231), (6, 232), (6, 233), (6, 234), (3, 42), (3, 43), (3, 44), (3, 46), (3, 47), (3, 48), (3, 49), (3, 73), (1, 212), (1, 213), (1, 214), (1, 215), (1, 217), (0, 3)] (by decide +kernel)
set_option maxRecDepth 20000 in
theorem am_wi24 : ∀ w ∈ wsL_law0_r24, w ∈ lw_tbl := am_tb_all [(1, 218), (6, 235), (6, 236), (6, 237), (6, 238), (6, 239), (7, 0), (7, 1), (7, 2), (7, 3), (7, 4), (7, 5), (7, 6), (7, 7), (7, 8), (7, 9), (7, 10), (7, 11), (7, 12), (7, 13), (7, 14), (7, 15), (7, 16), (7, 17)] (by decide +kernel)
def am_Wo25 : List Cond := [Cond.selects RX9 yX9_isWell yX9_isWell, Cond.code yX9_isWell cX9_isWell 2 (some .boolean), Cond.methodLink RX9 256 yX7_areAlike, Cond.instanceMethod yX7_areAlike, Cond.selects RX7 yX7_areAlike yX7_areAlike, Cond.code yX7_areAlike cX7_areAlike 4 (some .boolean), Cond.methodLink RX7 61 yX7_measure, Cond.methodLink RL 251 yL_seen, Cond.static yL_seen, Cond.code yL_seen cL_seen 4 (some (.array .int)), Cond.methodLink RL 255 yL_acts, Cond.static yL_acts, Cond.initialized RL, Cond.classLink RL 162 RJ4, Cond.instantiable RJ4 4, Cond.initialized RJ4, Cond.methodLink RL 148 yL_leave, Cond.static yL_leave, Cond.codeWith yL_leave cL_leave 3 (some .int) [(0, 5, 6, 15), (0, 5, 10, 21)], Cond.methodLink RL 35 yX9_leave, Cond.instanceMethod yX9_leave, Cond.selects RX9 yX9_leave yX9_leave, Cond.code yX9_leave cX9_leave 2 (some .int), Cond.methodLink RX9 104 yX0_leaveBridge]
set_option maxRecDepth 20000 in
theorem am_wi25 : ∀ w ∈ am_Wo25, w ∈ lw_tbl := am_tb_all [(7, 18), (7, 19), (7, 20), (7, 21), (7, 22), (7, 23), (7, 24), (6, 147), (6, 148), (6, 149), (4, 218), (4, 219), (1, 0), (5, 19), (5, 20), (1, 23), (4, 221), (4, 222), (4, 223), (4, 224), (4, 225), (4, 226), (4, 227), (4, 228)] (by decide +kernel)
set_option maxRecDepth 20000 in
theorem am_wi26 : ∀ w ∈ wsL_law0_r26, w ∈ lw_tbl := am_tb_all [(4, 229), (4, 230), (4, 231), (4, 232), (4, 233), (4, 234), (4, 235), (4, 236), (4, 237), (4, 238), (4, 239), (5, 0), (5, 1), (5, 2), (2, 212), (2, 213), (2, 214), (2, 215), (2, 216), (2, 217), (2, 218), (2, 219), (2, 220), (2, 221)] (by decide +kernel)
set_option maxRecDepth 20000 in
theorem am_wi27 : ∀ w ∈ wsL_law0_r27, w ∈ lw_tbl := am_tb_all [(2, 222), (2, 227), (2, 231), (2, 232), (2, 233), (2, 235), (0, 6), (2, 237), (2, 238), (3, 0), (0, 7), (3, 1), (3, 7), (3, 9), (0, 8), (3, 10), (3, 12), (3, 14), (0, 9), (3, 15), (3, 17), (5, 3), (5, 4), (5, 5)] (by decide +kernel)
set_option maxRecDepth 20000 in
theorem am_wi28 : ∀ w ∈ wsL_law0_r28, w ∈ lw_tbl := am_tb_all [(5, 6), (5, 7), (5, 8), (5, 9), (5, 10), (5, 11), (5, 12), (5, 13), (5, 14), (5, 15), (5, 17), (0, 14), (5, 18), (3, 18), (3, 19), (3, 20), (3, 21), (3, 22), (3, 23), (3, 24), (3, 25), (3, 26), (3, 27), (3, 28)] (by decide +kernel)
set_option maxRecDepth 20000 in
theorem am_wi29 : ∀ w ∈ wsL_law0_r29, w ∈ lw_tbl := am_tb_all [(3, 29), (3, 30), (3, 31), (3, 32), (3, 33), (3, 34), (3, 35), (3, 36), (3, 37), (3, 38), (3, 39), (3, 40), (3, 41), (5, 21), (5, 22), (5, 23), (5, 24), (5, 25), (1, 22), (5, 26), (5, 27), (5, 28), (1, 141), (5, 37)] (by decide +kernel)
def am_Wo30 : List Cond := [Cond.fieldLink RJ5 22 "java/lang/AbstractStringBuilder" "coder" "B", Cond.methodLink RJ5 26 yJ2_newBytesFor_77867, Cond.static yJ2_newBytesFor_77867, Cond.initialized RJ2, Cond.code yJ2_newBytesFor_77867 cJ2_newBytesFor_77867 1 (some (.array .byte)), Cond.methodLink RJ2 11 yJ2_newBytesLength_0f7a4, Cond.static yJ2_newBytesLength_0f7a4, Cond.code yJ2_newBytesLength_0f7a4 cJ2_newBytesLength_0f7a4 1 (some .int), Cond.constant RJ2 20 (1073741823), Cond.methodLink RL 167 yJ4_append_15ec4, Cond.instanceMethod yJ4_append_15ec4, Cond.selects RJ4 yJ4_append_15ec4 yJ4_append_15ec4, Cond.code yJ4_append_15ec4 cJ4_append_15ec4 2 (some (.object "java/lang/StringBuilder")), Cond.methodLink RJ4 29 yJ5_append_cf1ce, Cond.sameMethod "java/lang/AbstractStringBuilder" "java/lang/AbstractStringBuilder" "append" "(Ljava/lang/String;)Ljava/lang/AbstractStringBuilder;", Cond.superclass RJ4 RJ5, Cond.instanceMethod yJ5_append_cf1ce, Cond.code yJ5_append_cf1ce cJ5_append_cf1ce 3 (some (.object "java/lang/AbstractStringBuilder")), Cond.fieldLink RJ5 79 "java/lang/AbstractStringBuilder" "count" "I", Cond.methodLink RJ5 204 ⟨"java/lang/AbstractStringBuilder", "appendNull", "()Ljava/lang/AbstractStringBuilder;"⟩, Cond.sameMethod "java/lang/AbstractStringBuilder" "java/lang/AbstractStringBuilder" "appendNull" "()Ljava/lang/AbstractStringBuilder;", Cond.initialized RL, Cond.instanceMethod yJ5_appendNull_278bc, Cond.code yJ5_appendNull_278bc cJ5_appendNull_278bc 3 (some (.object "java/lang/AbstractStringBuilder"))]
set_option maxRecDepth 20000 in
theorem am_wi30 : ∀ w ∈ am_Wo30, w ∈ lw_tbl := am_tb_all [(5, 38), (5, 30), (5, 31), (1, 24), (5, 32), (5, 33), (5, 34), (5, 35), (5, 36), (5, 51), (5, 52), (5, 53), (5, 54), (5, 55), (7, 27), (5, 49), (5, 56), (5, 57), (5, 40), (5, 58), (7, 28), (1, 0), (5, 60), (5, 61)] (by decide +kernel)
def am_Wo31 : List Cond := [Cond.methodLink RJ5 100 ⟨"java/lang/AbstractStringBuilder", "ensureCapacityInternal", "(I)V"⟩, Cond.sameMethod "java/lang/AbstractStringBuilder" "java/lang/AbstractStringBuilder" "ensureCapacityInternal" "(I)V", Cond.initialized RL, Cond.instanceMethod yJ5_ensureCapacityInternal_d00df, Cond.code yJ5_ensureCapacityInternal_d00df cJ5_ensureCapacityInternal_d00df 3 none, Cond.methodLink RJ5 104 ⟨"java/lang/AbstractStringBuilder", "newCapacity", "(I)I"⟩, Cond.sameMethod "java/lang/AbstractStringBuilder" "java/lang/AbstractStringBuilder" "newCapacity" "(I)I", Cond.initialized RL, Cond.instanceMethod yJ5_newCapacity_0f7a4, Cond.code yJ5_newCapacity_0f7a4 cJ5_newCapacity_0f7a4 6 (some .int), Cond.constant RJ5 39 (2147483647), Cond.methodLink RJ5 114 yJ8_newLength_cabcc, Cond.static yJ8_newLength_cabcc, Cond.initialized RJ8, Cond.code yJ8_newLength_cabcc cJ8_newLength_cabcc 4 (some .int), Cond.methodLink RJ8 194 Lib.Math.max.name, Cond.constant RJ8 200 (2147483639), Cond.methodLink RJ8 201 yJ8_hugeLength_7cf53, Cond.static yJ8_hugeLength_7cf53, Cond.code yJ8_hugeLength_7cf53 cJ8_hugeLength_7cf53 3 (some .int), Cond.methodLink RJ5 108 yJ7_copyOf_9075b, Cond.static yJ7_copyOf_9075b, Cond.initialized RJ7, Cond.code yJ7_copyOf_9075b cJ7_copyOf_9075b 3 (some (.array .byte))]
set_option maxRecDepth 20000 in
theorem am_wi31 : ∀ w ∈ am_Wo31, w ∈ lw_tbl := am_tb_all [(5, 62), (7, 29), (1, 0), (5, 64), (5, 65), (5, 66), (7, 30), (1, 0), (5, 68), (5, 69), (5, 78), (5, 70), (5, 71), (1, 25), (5, 72), (5, 73), (5, 74), (5, 75), (5, 76), (5, 77), (5, 79), (5, 80), (1, 26), (5, 81)] (by decide +kernel)
set_option maxRecDepth 20000 in
theorem am_wi32 : ∀ w ∈ wsL_law0_r32, w ∈ lw_tbl := am_tb_all [(5, 82), (5, 83), (5, 84), (5, 85), (5, 86), (5, 88), (5, 89), (5, 90), (5, 91), (5, 93), (5, 94), (5, 92), (5, 95), (5, 96), (5, 97), (5, 98), (5, 116), (5, 99), (5, 100), (5, 101), (5, 102), (5, 103), (5, 104), (5, 105)] (by decide +kernel)
set_option maxRecDepth 20000 in
theorem am_wi33 : ∀ w ∈ wsL_law0_r33, w ∈ lw_tbl := am_tb_all [(5, 106), (1, 17), (5, 107), (5, 108), (5, 110), (5, 111), (1, 27), (5, 112), (5, 113), (5, 114), (5, 115), (5, 118), (5, 120), (5, 122), (5, 123), (5, 124), (5, 125), (6, 8), (5, 126), (5, 127), (5, 128), (5, 129), (5, 130), (6, 9)] (by decide +kernel)
def am_Wo34 : List Cond := [Cond.methodLink RJ5 208 ⟨"java/lang/AbstractStringBuilder", "putStringAt", "(ILjava/lang/String;)V"⟩, Cond.sameMethod "java/lang/AbstractStringBuilder" "java/lang/AbstractStringBuilder" "putStringAt" "(ILjava/lang/String;)V", Cond.initialized RL, Cond.instanceMethod yJ5_putStringAt_47b60, Cond.code yJ5_putStringAt_47b60 cJ5_putStringAt_47b60 3 none, Cond.methodLink RJ5 397 ⟨"java/lang/AbstractStringBuilder", "inflateIfNeededFor", "(Ljava/lang/String;)V"⟩, Cond.sameMethod "java/lang/AbstractStringBuilder" "java/lang/AbstractStringBuilder" "inflateIfNeededFor" "(Ljava/lang/String;)V", Cond.initialized RL, Cond.instanceMethod yJ5_inflateIfNeededFor_a7421, Cond.code yJ5_inflateIfNeededFor_a7421 cJ5_inflateIfNeededFor_a7421 2 none, Cond.methodLink RJ5 40 yJ0_coder_7d493, Cond.methodLink RJ5 195 ⟨"java/lang/AbstractStringBuilder", "inflate", "()V"⟩, Cond.sameMethod "java/lang/AbstractStringBuilder" "java/lang/AbstractStringBuilder" "inflate" "()V", Cond.initialized RL, Cond.instanceMethod yJ5_inflate_da8c8, Cond.code yJ5_inflate_da8c8 cJ5_inflate_da8c8 2 none, Cond.methodLink RJ5 125 yJ1_inflate_0e8fd, Cond.static yJ1_inflate_0e8fd, Cond.initialized RJ1, Cond.code yJ1_inflate_0e8fd cJ1_inflate_0e8fd 5 none, Cond.methodLink RJ1 240 yJ2_inflate_0e8fd, Cond.static yJ2_inflate_0e8fd, Cond.code yJ2_inflate_0e8fd cJ2_inflate_0e8fd 6 none, Cond.methodLink RJ2 173 yJ2_checkBoundsOffCount_d044e]
set_option maxRecDepth 20000 in
theorem am_wi34 : ∀ w ∈ am_Wo34, w ∈ lw_tbl := am_tb_all [(5, 131), (7, 31), (1, 0), (5, 133), (5, 134), (5, 135), (7, 32), (1, 0), (5, 137), (5, 138), (5, 139), (5, 140), (7, 33), (1, 0), (5, 142), (5, 143), (5, 144), (5, 145), (1, 28), (5, 146), (5, 147), (5, 148), (5, 149), (5, 150)] (by decide +kernel)
set_option maxRecDepth 20000 in
theorem am_wi35 : ∀ w ∈ wsL_law0_r35, w ∈ lw_tbl := am_tb_all [(5, 151), (5, 152), (5, 153), (5, 154), (5, 155), (5, 156), (5, 157), (5, 158), (5, 159), (5, 160), (5, 161), (5, 162), (5, 163), (5, 164), (5, 165), (5, 166), (5, 167), (5, 168), (5, 169), (7, 34), (5, 170), (5, 171), (5, 172), (5, 173)] (by decide +kernel)
set_option maxRecDepth 20000 in
theorem am_wi36 : ∀ w ∈ wsL_law0_r36, w ∈ lw_tbl := am_tb_all [(1, 30), (5, 174), (5, 175), (5, 176), (5, 177), (5, 178), (5, 180), (5, 182), (5, 183), (5, 184), (5, 185), (5, 186), (5, 187), (5, 188), (5, 189), (5, 192), (5, 193), (5, 194), (5, 195), (5, 196), (2, 180), (5, 197), (5, 198), (5, 199)] (by decide +kernel)
set_option maxRecDepth 20000 in
theorem am_wi37 : ∀ w ∈ wsL_law0_r37, w ∈ lw_tbl := am_tb_all [(5, 200), (5, 201), (5, 202), (5, 203), (5, 39), (5, 204), (5, 206), (5, 207), (5, 205), (5, 208), (5, 209), (5, 211), (5, 210), (5, 212), (5, 213), (5, 214), (5, 215), (5, 210), (5, 216), (5, 217), (5, 218), (5, 219), (5, 220), (5, 221)] (by decide +kernel)
set_option maxRecDepth 20000 in
theorem am_wi38 : ∀ w ∈ wsL_law0_r38, w ∈ lw_tbl := am_tb_all [(5, 222), (5, 223), (5, 224), (5, 225), (5, 226), (5, 228), (5, 235), (5, 236), (5, 237), (5, 238), (5, 239), (6, 0), (6, 1), (6, 2), (6, 3), (6, 4), (6, 5), (6, 6), (6, 7), (6, 19), (6, 20), (6, 21), (6, 22), (6, 23)] (by decide +kernel)
set_option maxRecDepth 20000 in
theorem am_wi39 : ∀ w ∈ wsL_law0_r39, w ∈ lw_tbl := am_tb_all [(6, 24), (6, 25), (6, 26), (6, 27), (6, 28), (6, 29), (6, 30), (6, 31), (6, 32), (6, 33), (6, 34), (6, 35), (6, 36), (6, 37), (6, 38), (6, 39), (6, 40), (6, 41), (6, 42), (6, 43), (6, 44), (6, 45), (6, 46), (6, 47)] (by decide +kernel)
set_option maxRecDepth 20000 in
theorem am_wi40 : ∀ w ∈ wsL_law0_r40, w ∈ lw_tbl := am_tb_all [(6, 48), (6, 49), (6, 50), (3, 135), (1, 31), (1, 239), (1, 231), (1, 232), (1, 233), (1, 234), (6, 52), (6, 53), (6, 54), (6, 55), (6, 56), (6, 57), (6, 58), (6, 59), (6, 60), (6, 61), (6, 62), (6, 63), (6, 65), (0, 15)] (by decide +kernel)
set_option maxRecDepth 20000 in
theorem am_wi41 : ∀ w ∈ wsL_law0_r41, w ∈ lw_tbl := am_tb_all [(6, 66), (6, 67), (6, 68), (6, 69), (6, 83), (6, 85), (0, 16), (6, 86), (6, 100), (6, 87), (6, 88), (6, 89), (6, 90), (6, 91), (6, 92), (6, 93), (6, 94), (6, 95), (6, 96), (6, 97), (6, 98), (6, 99), (6, 101), (6, 103)] (by decide +kernel)
set_option maxRecDepth 20000 in
theorem am_wi42 : ∀ w ∈ wsL_law0_r42, w ∈ lw_tbl := am_tb_all [(0, 17), (6, 104), (6, 105), (6, 106), (1, 219), (1, 220), (1, 221), (1, 222), (6, 107), (6, 108), (6, 109), (6, 110), (6, 112), (6, 113), (6, 114), (6, 115), (6, 116), (6, 117), (6, 118), (6, 119), (6, 120), (6, 121), (6, 122), (6, 123)] (by decide +kernel)
set_option maxRecDepth 20000 in
theorem am_wi43 : ∀ w ∈ wsL_law0_r43, w ∈ lw_tbl := am_tb_all [(6, 124), (6, 125), (6, 126), (6, 127), (6, 128), (6, 129), (6, 130), (6, 131), (6, 132), (6, 133), (6, 134), (6, 135), (6, 136), (6, 137), (6, 138), (6, 139), (6, 140), (6, 141), (3, 157), (3, 158), (3, 159), (3, 160), (3, 161), (3, 162)] (by decide +kernel)
set_option maxRecDepth 20000 in
theorem am_wi44 : ∀ w ∈ wsL_law0_r44, w ∈ lw_tbl := am_tb_all [(3, 163), (6, 142), (6, 143), (6, 144), (6, 145), (6, 178), (6, 179), (6, 180), (3, 127), (3, 128), (3, 129), (3, 130), (3, 131), (3, 132), (3, 133), (3, 134), (3, 151), (3, 152), (3, 153), (3, 154), (3, 155), (3, 156), (2, 77), (2, 78)] (by decide +kernel)
set_option maxRecDepth 20000 in
theorem am_wi45 : ∀ w ∈ wsL_law0_r45, w ∈ lw_tbl := am_tb_all [(2, 79), (2, 80), (2, 81), (1, 32), (1, 33), (1, 34), (1, 35), (1, 36), (1, 37), (1, 38), (1, 39), (3, 74), (3, 75), (3, 76), (3, 77), (3, 78), (3, 79), (3, 80), (3, 81), (3, 82), (3, 83), (3, 84), (3, 85), (3, 87)] (by decide +kernel)
set_option maxRecDepth 20000 in
theorem am_wi46 : ∀ w ∈ wsL_law0_r46, w ∈ lw_tbl := am_tb_all [(0, 10), (3, 89), (3, 90), (3, 92), (0, 11), (3, 93), (3, 95), (3, 96), (3, 97), (3, 98), (3, 99), (3, 100), (3, 101), (3, 102), (3, 103), (3, 104), (3, 105), (3, 106), (3, 108), (0, 12), (3, 109), (3, 110), (3, 111), (3, 112)] (by decide +kernel)
set_option maxRecDepth 20000 in
theorem am_wi47 : ∀ w ∈ wsL_law0_r47, w ∈ lw_tbl := am_tb_all [(3, 113), (3, 114), (3, 115), (3, 116), (3, 117), (3, 118), (3, 119), (3, 120), (3, 121), (3, 122), (3, 124), (0, 13), (3, 125), (1, 56), (1, 57), (1, 58), (1, 59), (1, 186), (1, 187), (1, 188), (1, 189), (1, 211), (1, 223), (1, 224)] (by decide +kernel)
set_option maxRecDepth 20000 in
theorem am_wi48 : ∀ w ∈ wsL_law0_r48, w ∈ lw_tbl := am_tb_all [(1, 225), (1, 226), (1, 227), (1, 228), (1, 229), (1, 230), (1, 235), (1, 236), (1, 237), (1, 238), (2, 4), (2, 5), (2, 6), (2, 7), (2, 19), (2, 21), (3, 164), (3, 165), (3, 166), (3, 167), (3, 168), (3, 169), (3, 170), (3, 172)] (by decide +kernel)
set_option maxRecDepth 20000 in
theorem am_wi49 : ∀ w ∈ wsL_law0_r49, w ∈ lw_tbl := am_tb_all [(3, 173), (3, 174), (3, 175), (3, 176)] (by decide +kernel)
def am_Wo50 : List Cond := [Cond.code yL_isWell cL_isWell 21 (some .boolean)]
theorem am_wi50 : ∀ w ∈ am_Wo50, w ∈ lw_tbl := List.forall_mem_cons.mpr ⟨am_tb_in 6 _ (List.mem_of_getElem? (i := 183) rfl), fun _ h => absurd h List.not_mem_nil⟩
def am_Wo51 : List Cond := [Cond.code yL_acts cL_acts 6 (some .int)]
theorem am_wi51 : ∀ w ∈ am_Wo51, w ∈ lw_tbl := List.forall_mem_cons.mpr ⟨am_tb_in 4 _ (List.mem_of_getElem? (i := 220) rfl), fun _ h => absurd h List.not_mem_nil⟩
def am_Wc : Nat → List Cond := fun k => match k with
  | 0 => wsL_law0_r1
  | 1 => wsL_law0_r2
  | 2 => wsL_law0_r3
  | 3 => wsL_law0_r4
  | 4 => wsL_law0_r5
  | 5 => wsL_law0_r6
  | 6 => wsL_law0_r7
  | 7 => wsL_law0_r8
  | 8 => wsL_law0_r9
  | 9 => wsL_law0_r10
  | 10 => wsL_law0_r11
  | 11 => wsL_law0_r12
  | 12 => wsL_law0_r13
  | 13 => wsL_law0_r14
  | 14 => am_Wo15
  | 15 => wsL_law0_r16
  | 16 => wsL_law0_r17
  | 17 => wsL_law0_r18
  | 18 => wsL_law0_r19
  | 19 => wsL_law0_r20
  | 20 => wsL_law0_r21
  | 21 => wsL_law0_r22
  | 22 => wsL_law0_r23
  | 23 => wsL_law0_r24
  | 24 => am_Wo25
  | 25 => wsL_law0_r26
  | 26 => wsL_law0_r27
  | 27 => wsL_law0_r28
  | 28 => wsL_law0_r29
  | 29 => am_Wo30
  | 30 => am_Wo31
  | 31 => wsL_law0_r32
  | 32 => wsL_law0_r33
  | 33 => am_Wo34
  | 34 => wsL_law0_r35
  | 35 => wsL_law0_r36
  | 36 => wsL_law0_r37
  | 37 => wsL_law0_r38
  | 38 => wsL_law0_r39
  | 39 => wsL_law0_r40
  | 40 => wsL_law0_r41
  | 41 => wsL_law0_r42
  | 42 => wsL_law0_r43
  | 43 => wsL_law0_r44
  | 44 => wsL_law0_r45
  | 45 => wsL_law0_r46
  | 46 => wsL_law0_r47
  | 47 => wsL_law0_r48
  | 48 => wsL_law0_r49
  | 49 => am_Wo50
  | 50 => am_Wo51
  | _ => []
theorem am_Wc_in : ∀ (k : Nat) (w : Cond), w ∈ am_Wc k → w ∈ lw_tbl := by
  intro k w h
  match k, h with
  | 0, h => exact am_wi1 w h
  | 1, h => exact am_wi2 w h
  | 2, h => exact am_wi3 w h
  | 3, h => exact am_wi4 w h
  | 4, h => exact am_wi5 w h
  | 5, h => exact am_wi6 w h
  | 6, h => exact am_wi7 w h
  | 7, h => exact am_wi8 w h
  | 8, h => exact am_wi9 w h
  | 9, h => exact am_wi10 w h
  | 10, h => exact am_wi11 w h
  | 11, h => exact am_wi12 w h
  | 12, h => exact am_wi13 w h
  | 13, h => exact am_wi14 w h
  | 14, h => exact am_wi15 w h
  | 15, h => exact am_wi16 w h
  | 16, h => exact am_wi17 w h
  | 17, h => exact am_wi18 w h
  | 18, h => exact am_wi19 w h
  | 19, h => exact am_wi20 w h
  | 20, h => exact am_wi21 w h
  | 21, h => exact am_wi22 w h
  | 22, h => exact am_wi23 w h
  | 23, h => exact am_wi24 w h
  | 24, h => exact am_wi25 w h
  | 25, h => exact am_wi26 w h
  | 26, h => exact am_wi27 w h
  | 27, h => exact am_wi28 w h
  | 28, h => exact am_wi29 w h
  | 29, h => exact am_wi30 w h
  | 30, h => exact am_wi31 w h
  | 31, h => exact am_wi32 w h
  | 32, h => exact am_wi33 w h
  | 33, h => exact am_wi34 w h
  | 34, h => exact am_wi35 w h
  | 35, h => exact am_wi36 w h
  | 36, h => exact am_wi37 w h
  | 37, h => exact am_wi38 w h
  | 38, h => exact am_wi39 w h
  | 39, h => exact am_wi40 w h
  | 40, h => exact am_wi41 w h
  | 41, h => exact am_wi42 w h
  | 42, h => exact am_wi43 w h
  | 43, h => exact am_wi44 w h
  | 44, h => exact am_wi45 w h
  | 45, h => exact am_wi46 w h
  | 46, h => exact am_wi47 w h
  | 47, h => exact am_wi48 w h
  | 48, h => exact am_wi49 w h
  | 49, h => exact am_wi50 w h
  | 50, h => exact am_wi51 w h
  | k + 51, h => exact absurd h List.not_mem_nil
