/-! THROWS, closed: the words of a throw hold in every state behind the start -/
def th_ic (E : Nat) : Nat := [370, 153, 268, 163, 306, 238].getD E 0
def th_at (E : Nat) : List Cond := if E = 5 then nx_L.filter vx_no else vx_atS RX9 (th_ic E) (am_en E) nxN
set_option maxRecDepth 20000 in
theorem th_in0 : ∀ w ∈ th_at 0, w ∈ lw_tbl := am_tb_all [(1, 13), (2, 225), (2, 176), (2, 185), (2, 188), (2, 190), (2, 226), (2, 227), (1, 34), (1, 35), (2, 170), (2, 175), (2, 186), (2, 193), (2, 219), (2, 194), (2, 220), (2, 195), (2, 221), (2, 171), (2, 173), (2, 222), (2, 168), (2, 169), (2, 192), (2, 222), (6, 62), (6, 63), (6, 64), (2, 162), (2, 213), (2, 162), (2, 163), (2, 164), (2, 165), (2, 215), (2, 165), (2, 166), (2, 167), (2, 168), (2, 217), (6, 80), (6, 61), (6, 72), (6, 73), (2, 178), (6, 67), (6, 68), (6, 70), (6, 66), (2, 191), (2, 223), (6, 65)] (by decide +kernel)
set_option maxRecDepth 20000 in
theorem th_in1 : ∀ w ∈ th_at 1, w ∈ lw_tbl := am_tb_all [(1, 13), (2, 225), (2, 176), (2, 185), (2, 188), (2, 190), (2, 226), (2, 227), (1, 34), (1, 35), (2, 170), (2, 175), (2, 186), (2, 193), (2, 219), (2, 194), (2, 220), (2, 195), (2, 221), (2, 171), (2, 173), (2, 222), (2, 168), (2, 169), (2, 192), (2, 222), (3, 70), (3, 71), (3, 72), (2, 162), (2, 213), (2, 162), (2, 163), (2, 164), (2, 165), (2, 215), (2, 165), (2, 166), (2, 167), (2, 168), (2, 217), (3, 69), (3, 60), (3, 61), (3, 62), (2, 180), (3, 63), (3, 64), (3, 65), (3, 66), (2, 191), (2, 223), (3, 67)] (by decide +kernel)
set_option maxRecDepth 20000 in
theorem th_in2 : ∀ w ∈ th_at 2, w ∈ lw_tbl := am_tb_all [(1, 13), (2, 225), (2, 176), (2, 185), (2, 188), (2, 190), (2, 226), (2, 227), (1, 34), (1, 35), (2, 170), (2, 175), (2, 186), (2, 193), (2, 219), (2, 194), (2, 220), (2, 195), (2, 221), (2, 171), (2, 173), (2, 222), (2, 168), (2, 169), (2, 192), (2, 222), (5, 36), (5, 37), (5, 38), (2, 162), (2, 213), (2, 162), (2, 163), (2, 164), (2, 165), (2, 215), (2, 165), (2, 166), (2, 167), (2, 168), (2, 217), (5, 35), (5, 26), (5, 27), (5, 28), (2, 181), (5, 29), (5, 30), (5, 31), (5, 32), (2, 191), (2, 223), (5, 33)] (by decide +kernel)
set_option maxRecDepth 20000 in
theorem th_in3 : ∀ w ∈ th_at 3, w ∈ lw_tbl := am_tb_all [(1, 13), (2, 225), (2, 176), (2, 185), (2, 188), (2, 190), (2, 226), (2, 227), (1, 34), (1, 35), (2, 170), (2, 175), (2, 186), (2, 193), (2, 219), (2, 194), (2, 220), (2, 195), (2, 221), (2, 171), (2, 173), (2, 222), (2, 168), (2, 169), (2, 192), (2, 222), (2, 159), (2, 160), (2, 161), (2, 162), (2, 213), (2, 162), (2, 163), (2, 164), (2, 165), (2, 215), (2, 165), (2, 166), (2, 167), (2, 168), (2, 217), (3, 56), (3, 47), (3, 48), (3, 49), (2, 182), (3, 50), (3, 51), (3, 52), (3, 53), (2, 191), (2, 223), (3, 54)] (by decide +kernel)
set_option maxRecDepth 20000 in
theorem th_in4 : ∀ w ∈ th_at 4, w ∈ lw_tbl := am_tb_all [(1, 13), (2, 225), (2, 176), (2, 185), (2, 188), (2, 190), (2, 226), (2, 227), (1, 34), (1, 35), (2, 170), (2, 175), (2, 186), (2, 193), (2, 219), (2, 194), (2, 220), (2, 195), (2, 221), (2, 171), (2, 173), (2, 222), (2, 168), (2, 169), (2, 192), (2, 222), (3, 90), (3, 91), (3, 92), (2, 162), (2, 213), (2, 162), (2, 163), (2, 164), (2, 165), (2, 215), (2, 165), (2, 166), (2, 167), (2, 168), (2, 217), (3, 89), (3, 80), (3, 81), (3, 82), (2, 183), (3, 83), (3, 84), (3, 85), (3, 86), (2, 191), (2, 223), (3, 87)] (by decide +kernel)
set_option maxRecDepth 20000 in
theorem th_in5 : ∀ w ∈ th_at 5, w ∈ lw_tbl := am_tb_all [(1, 13), (2, 225), (2, 176), (2, 185), (2, 188), (2, 190), (2, 226), (2, 227), (1, 34), (1, 35), (2, 170), (2, 175), (2, 186), (2, 193), (2, 219), (2, 194), (2, 220), (2, 195), (2, 221), (2, 171), (2, 173), (2, 222), (2, 168), (2, 169), (2, 192), (2, 222), (4, 155), (2, 162), (2, 213), (2, 162), (2, 163), (2, 164), (2, 165), (2, 215), (2, 165), (2, 166), (2, 167), (2, 168), (2, 217), (4, 154), (4, 145), (4, 146), (4, 147), (2, 184), (4, 148), (4, 149), (4, 150), (4, 151), (2, 191), (2, 223), (4, 152), (4, 155), (4, 156), (4, 157), (2, 162), (2, 213)] (by decide +kernel)
theorem th_in : ∀ E, E < 6 → ∀ w ∈ th_at E, w ∈ lw_tbl := by
  intro E hE
  match E, hE with
  | 0, _ => exact th_in0
  | 1, _ => exact th_in1
  | 2, _ => exact th_in2
  | 3, _ => exact th_in3
  | 4, _ => exact th_in4
  | 5, _ => exact th_in5
theorem th_ot : ∀ E, E < 6 → ∀ w ∈ th_at E, vx_ot w = true := by decide +kernel
theorem th_ot2 : ∀ q ∈ am_xT 9, vx_ot (.classLink RX9 q.1 (am_en q.2.1)) = true ∧ vx_ot (.initialized (am_en q.2.1)) = true ∧ q.2.2.1 = th_ic q.2.1 ∧ Bundle.fit (am_en q.2.1) = true := by decide +kernel
theorem th_ng : ∀ E, E < 6 → ∀ w ∈ th_at E, goodWord w = false → w = .declares (Bundle.initS "java/lang/RuntimeException") ∨ w = .declares (Bundle.initS "java/lang/Exception") ∨ w = .declares (Bundle.initS Bundle.tN) ∨ w = .castable (am_en E) (am_en E) := by decide +kernel
theorem th_fit : ∀ n ∈ nxN, Bundle.fit n = true := by decide +kernel
theorem th_w {s0 U : State} {H : Heap} (hF : ev_F s0) (hE : ev_E s0 U H) (args : Array Value) {E : Nat} (hE6 : E < 6) : ∀ w ∈ th_at E, w.before args U = true := by
  intro w hw
  obtain ⟨A0, hT, -⟩ := hF
  have h0 := hT w (th_in E hE6 w hw)
  by_cases g : goodWord w = true
  · exact word_at hE.1 (good_of_word g) h0
  · rcases th_ng E hE6 w hw (by simpa using g) with e | e | e | e
    · subst e
      exact va_Nw.use rfl (va_Nw.warmD hE.1 (va_Nw.of rfl h0))
    · subst e
      exact va_Nw.use rfl (va_Nw.warmD hE.1 (va_Nw.of rfl h0))
    · subst e
      exact va_Nw.use rfl (va_Nw.warmD hE.1 (va_Nw.of rfl h0))
    · subst e
      exact va_Nw.use rfl (va_Nw.warmC hE.1 (va_Nw.of rfl h0))
theorem th_i4 : ev_L[4]? = some (.isRef (.static Bundle.tN "UNASSIGNED_STACK" Bundle.steD)) ∧ ev_L[5]? = some (.isRef (.static Bundle.tN "SUPPRESSED_SENTINEL" Bundle.listD)) := by decide +kernel
theorem th_lu : (am_tb 2)[172]? = some (.laysStatic Bundle.tN "UNASSIGNED_STACK" Bundle.steD) ∧ (am_tb 2)[174]? = some (.laysStatic Bundle.tN "SUPPRESSED_SENTINEL" Bundle.listD) ∧ (am_tb 1)[13]? = some (.initialized Bundle.tN) := by decide +kernel
theorem th_U {s0 U : State} {H : Heap} (hF : ev_F s0) (hE : ev_E s0 U H) : vx_Zq Bundle.tN "UNASSIGNED_STACK" Bundle.steD (am_A s0.heap.size) U H ∧ vx_Zq Bundle.tN "SUPPRESSED_SENTINEL" Bundle.listD (am_A s0.heap.size) U H := by
  obtain ⟨A0, hT, hL⟩ := hF
  have hA : ∀ a : Nat, a < s0.heap.size → ¬ am_A s0.heap.size a := fun a ha => Nat.not_le.mpr ha
  have hi := hT _ (am_tb_in 1 _ (List.mem_of_getElem? th_lu.2.2))
  have hq : ∀ b : Nat, b < s0.heap.size → ¬ am_A s0.heap.size b → H[b]? = s0.heap[b]? := fun b hb _ => hE.2 b hb
  exact ⟨vx_Zq.moved hE.1.alike ((vx_Zqof (hT _ (am_tb_in 2 _ (List.mem_of_getElem? th_lu.1))) hi (hL _ (List.mem_of_getElem? th_i4.1)) hA).kept hq),
    vx_Zq.moved hE.1.alike ((vx_Zqof (hT _ (am_tb_in 2 _ (List.mem_of_getElem? th_lu.2.1))) hi (hL _ (List.mem_of_getElem? th_i4.2)) hA).kept hq)⟩
theorem th_e5 : th_at 5 = nx_L.filter vx_no := by
  unfold th_at
  rw [if_pos rfl]
