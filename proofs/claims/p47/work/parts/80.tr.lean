/-! THROWS, closed: the words of a throw hold in every state behind the start -/
def th_ic (E : Nat) : Nat := [370, 153, 268, 163, 306, 238].getD E 0
def th_at (E : Nat) : List Cond := if E = 5 then nx_L.filter vx_no else vx_atS RX9 (th_ic E) (am_en E) nxN
set_option maxRecDepth 20000 in
theorem th_in1 : ∀ w ∈ th_at 1, w ∈ lw_tbl := by decide +kernel
set_option maxRecDepth 20000 in
theorem th_in2 : ∀ w ∈ th_at 2, w ∈ lw_tbl := by decide +kernel
set_option maxRecDepth 20000 in
theorem th_in3 : ∀ w ∈ th_at 3, w ∈ lw_tbl := by decide +kernel
set_option maxRecDepth 20000 in
theorem th_in4 : ∀ w ∈ th_at 4, w ∈ lw_tbl := by decide +kernel
set_option maxRecDepth 20000 in
theorem th_in5 : ∀ w ∈ th_at 5, w ∈ lw_tbl := by decide +kernel
theorem th_in : ∀ E, 0 < E → E < 6 → ∀ w ∈ th_at E, w ∈ lw_tbl := by
  intro E h0 hE
  match E, h0, hE with
  | 1, _, _ => exact th_in1
  | 2, _, _ => exact th_in2
  | 3, _, _ => exact th_in3
  | 4, _, _ => exact th_in4
  | 5, _, _ => exact th_in5
theorem th_ot : ∀ E, E < 6 → 0 < E → ∀ w ∈ th_at E, vx_ot w = true := by decide +kernel
theorem th_ot2 : ∀ q ∈ am_xT 9, vx_ot (.classLink RX9 q.1 (am_en q.2.1)) = true ∧ vx_ot (.initialized (am_en q.2.1)) = true ∧ q.2.2.1 = th_ic q.2.1 ∧ Bundle.fit (am_en q.2.1) = true := by decide +kernel
theorem th_ng : ∀ E, E < 6 → 0 < E → ∀ w ∈ th_at E, goodWord w = false → w = .declares (Bundle.initS "java/lang/RuntimeException") ∨ w = .declares (Bundle.initS "java/lang/Exception") ∨ w = .declares (Bundle.initS Bundle.tN) ∨ w = .castable (am_en E) (am_en E) := by decide +kernel
theorem th_fit : ∀ n ∈ nxN, Bundle.fit n = true := by decide +kernel
theorem th_w {s0 U : State} {H : Heap} (hF : ev_F s0) (hE : ev_E s0 U H) (args : Array Value) {E : Nat} (hE0 : 0 < E) (hE6 : E < 6) : ∀ w ∈ th_at E, w.before args U = true := by
  intro w hw
  obtain ⟨A0, hT, -⟩ := hF
  have h0 := hT w (th_in E hE0 hE6 w hw)
  by_cases g : goodWord w = true
  · exact word_at hE.1 (good_of_word g) h0
  · rcases th_ng E hE6 hE0 w hw (by simpa using g) with e | e | e | e
    · subst e
      exact va_Nw.use rfl (va_Nw.warmD hE.1 (va_Nw.of rfl h0))
    · subst e
      exact va_Nw.use rfl (va_Nw.warmD hE.1 (va_Nw.of rfl h0))
    · subst e
      exact va_Nw.use rfl (va_Nw.warmD hE.1 (va_Nw.of rfl h0))
    · subst e
      exact va_Nw.use rfl (va_Nw.warmC hE.1 (va_Nw.of rfl h0))
theorem th_i4 : ev_L[4]? = some (.isRef (.static Bundle.tN "UNASSIGNED_STACK" Bundle.steD)) ∧ ev_L[5]? = some (.isRef (.static Bundle.tN "SUPPRESSED_SENTINEL" Bundle.listD)) := by decide +kernel
theorem th_lu : (am_tb 1)[98]? = some (.laysStatic Bundle.tN "UNASSIGNED_STACK" Bundle.steD) ∧ (am_tb 1)[100]? = some (.laysStatic Bundle.tN "SUPPRESSED_SENTINEL" Bundle.listD) ∧ (am_tb 1)[12]? = some (.initialized Bundle.tN) := by decide +kernel
theorem th_U {s0 : State} (hF : ev_F s0) {A : Nat → Prop} {EV : State → Heap → Prop} (hB : ev_B s0 A EV) {U : State} {H : Heap} (hE : EV U H) : vx_Zq Bundle.tN "UNASSIGNED_STACK" Bundle.steD A U H ∧ vx_Zq Bundle.tN "SUPPRESSED_SENTINEL" Bundle.listD A U H := by
  obtain ⟨A0, hT, hL⟩ := hF
  have hi := hT _ (am_tb_in 1 _ (List.mem_of_getElem? th_lu.2.2))
  have hW := (hB.2 U H hE).1
  exact ⟨vx_Zq.moved hW.alike ((vx_Zqof (hT _ (am_tb_in 1 _ (List.mem_of_getElem? th_lu.1))) hi (hL _ (List.mem_of_getElem? th_i4.1)) hB.1).kept (ev_q hB hE)),
    vx_Zq.moved hW.alike ((vx_Zqof (hT _ (am_tb_in 1 _ (List.mem_of_getElem? th_lu.2.1))) hi (hL _ (List.mem_of_getElem? th_i4.2)) hB.1).kept (ev_q hB hE))⟩
theorem th_e5 : th_at 5 = nx_L.filter vx_no := by
  unfold th_at
  rw [if_pos rfl]
