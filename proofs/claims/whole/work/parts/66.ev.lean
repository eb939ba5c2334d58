/-! THE WORLD OUTSIDE: what the law's start says of it, kept in every state behind -/
/-- every state behind s0: warmed, the old cells as they were -/
def ev_E (s0 : State) (U : State) (H : Heap) : Prop := s0.WarmedH U.vm ∧ ∀ a : Nat, a < s0.heap.size → H[a]? = s0.heap[a]?
abbrev ev_L : List Cond := flatC (Jvm.Cond.and given_1 narrow_1)
def ev_F (s0 : State) : Prop := ∃ A0 : Array Value, (∀ w ∈ lw_tbl, w.before A0 s0 = true) ∧ ∀ w ∈ ev_L, w.before A0 s0 = true
theorem ev_m (s0 : State) : am_EVm s0.heap.size (ev_E s0) := by
  refine ⟨fun u U H hW h => ⟨State.WarmedH.trans h.1 hW, h.2⟩, fun U H H1 hq h => ⟨h.1, fun a ha => ?_⟩⟩
  have h1 := h.2 a ha
  have h2 : a < H.size := by
    rw [Array.getElem?_eq_getElem ha] at h1
    exact (Array.getElem?_eq_some_iff.mp h1).1
  rw [hq a h2 (Nat.not_le.mpr ha)]
  exact h1
theorem ev_tbl {w : Cond} (h : w ∈ tables_1) : w ∈ lw_tbl := List.mem_append_right _ h
theorem ev_nw {s0 : State} (hF : ev_F s0) : am_nwR (ev_E s0) := by
  obtain ⟨A0, hT, -⟩ := hF
  intro U H hE
  refine ⟨fun o ho q hq => ?_, fun o q hq => ?_⟩
  · exact va_Nw.warmF hE.1 (va_Nw.of rfl (hT _ (ev_tbl (am_fN_ok o ho q hq).2.2.2)))
  · exact va_Nw.warmM hE.1 (va_Nw.of rfl (hT _ (ev_tbl (am_iN_ok o q hq).1.2)))
def ev_pc : List (Nat × Nat) := [(6, 72), (3, 61), (5, 27), (3, 48), (3, 81), (4, 146)]
theorem ev_cast (i : Nat) (hi : i < 6) : Cond.castable (am_en i) (am_en i) ∈ lw_tbl := by
  have h : ∀ i, i < 6 → (am_tb (ev_pc.getD i (0, 0)).1)[(ev_pc.getD i (0, 0)).2]? = some (Cond.castable (am_en i) (am_en i)) := by decide +kernel
  exact am_tb_in _ _ (List.mem_of_getElem? (h i hi))
def ev_pn : List (List Nat) := [[0, 43, 94, 26, 60, 77], [108, 0, 91, 22, 57, 74], [111, 42, 0, 25, 59, 76], [107, 39, 90, 0, 56, 73], [109, 40, 92, 23, 0, 75], [110, 41, 93, 24, 58, 0]]
theorem ev_not (i : Nat) (hi : i < 6) (j : Nat) (hj : j < 6) (hij : i ≠ j) : Cond.not (.castable (am_en i) (am_en j)) ∈ ev_L := by
  have h : ∀ i, i < 6 → ∀ j, j < 6 → i ≠ j → ev_L[(ev_pn.getD i []).getD j 0]? = some (Cond.not (.castable (am_en i) (am_en j))) := by decide +kernel
  exact List.mem_of_getElem? (h i hi j hj hij)
theorem ev_x {s0 : State} (hF : ev_F s0) (ex : List Cond) : am_exR s0.heap.size ex (ev_E s0) := by
  obtain ⟨A0, hT, hL⟩ := hF
  exact ⟨fun U H hE i hi => va_Nw.warmC hE.1 (va_Nw.of rfl (hT _ (ev_cast i hi))), fun U H hE i j hi hj hij => va_Nc.moved hE.1.alike (va_Nc.of (hL _ (ev_not i hi j hj hij)))⟩
/-! strings -/
def ev_tm (q : (Nat × Nat) × String) : Term := .string (am_cn q.1.1) q.1.2
def ev_v (q : (Nat × Nat) × String) : Term := .field (ev_tm q) "java/lang/String" "value" "[B"
def ev_by (tx : String) : List Int32 := tx.toList.map fun c => Int32.ofNat c.toNat
def ev_ws (q : (Nat × Nat) × String) : List Cond :=
  [.exactly (ev_tm q) "java/lang/String", .eq (.field (ev_tm q) "java/lang/String" "coder" "B") (.int 0), .arrayOf (ev_v q) .byte, .eq (.length (ev_v q)) (.int (Int32.ofNat q.2.length))] ++
  (List.range q.2.length).map fun j => .eq (.elem (ev_v q) (.int (Int32.ofNat j))) (.int ((ev_by q.2).getD j 0))
abbrev ev_z : List ((Nat × Nat) × String) := am_sk.zip am_sx
theorem ev_g1 : (ev_z.take 13).flatMap ev_ws = (ev_L.drop 469).take 162 := by decide +kernel
theorem ev_g2 : ((ev_z.drop 13).take 2).flatMap ev_ws = (ev_L.drop 877).take 20 := by decide +kernel
theorem ev_g3 : (ev_z.drop 15).flatMap ev_ws = ev_L.drop 898 := by decide +kernel
theorem ev_zz : ev_z = ev_z.take 13 ++ ((ev_z.drop 13).take 2 ++ ev_z.drop 15) := by decide +kernel
theorem ev_wsL {q : (Nat × Nat) × String} (hq : q ∈ ev_z) {w : Cond} (hw : w ∈ ev_ws q) : w ∈ ev_L := by
  rw [ev_zz] at hq
  rcases List.mem_append.mp hq with h | h
  · have h2 : w ∈ (ev_z.take 13).flatMap ev_ws := List.mem_flatMap.mpr ⟨q, h, hw⟩
    rw [ev_g1] at h2
    exact List.mem_of_mem_drop (List.mem_of_mem_take h2)
  · rcases List.mem_append.mp h with h | h
    · have h2 : w ∈ ((ev_z.drop 13).take 2).flatMap ev_ws := List.mem_flatMap.mpr ⟨q, h, hw⟩
      rw [ev_g2] at h2
      exact List.mem_of_mem_drop (List.mem_of_mem_take h2)
    · have h2 : w ∈ (ev_z.drop 15).flatMap ev_ws := List.mem_flatMap.mpr ⟨q, h, hw⟩
      rw [ev_g3] at h2
      exact List.mem_of_mem_drop h2
theorem ev_rf : ev_z.map (fun q => Cond.stringRef (am_cn q.1.1) q.1.2 q.2) = ((am_tb 5).drop 63).take 13 ++ ((am_tb 8).drop 107).take 13 := by decide +kernel
theorem ev_ref {q : (Nat × Nat) × String} (hq : q ∈ ev_z) : Cond.stringRef (am_cn q.1.1) q.1.2 q.2 ∈ lw_tbl := by
  have h : Cond.stringRef (am_cn q.1.1) q.1.2 q.2 ∈ ev_z.map (fun q => Cond.stringRef (am_cn q.1.1) q.1.2 q.2) := List.mem_map.mpr ⟨q, hq, rfl⟩
  rw [ev_rf] at h
  rcases List.mem_append.mp h with h | h
  · exact am_tb_in 5 _ (List.mem_of_mem_drop (List.mem_of_mem_take h))
  · exact am_tb_in 8 _ (List.mem_of_mem_drop (List.mem_of_mem_take h))
theorem ev_ln : ∀ q ∈ ev_z, q.2.length < 100 ∧ (ev_by q.2).length = q.2.length ∧ ∀ c ∈ q.2.toList, c.toNat < 128 := by decide +kernel
/-- a String constant: where it lies, its class, its coder, its bytes -/
def ev_S (s0 : State) (A : Nat → Prop) (q : (Nat × Nat) × String) (a v : Nat) (U : State) (H : Heap) : Prop :=
  vk_R (am_cn q.1.1) q.1.2 q.2 a U ∧ va_O "java/lang/String" a A U H ∧ va_OF "java/lang/String" "coder" "B" (.int 0) a A U H ∧ va_OF "java/lang/String" "value" "[B" (.ref v) a A U H ∧ va_T .byte v q.2.length (fun j => .int ((ev_by q.2).getD j 0)) A U H
theorem ev_str {s0 : State} (hF : ev_F s0) {q : (Nat × Nat) × String} (hq : q ∈ am_sk.zip am_sx) : ∃ a v : Nat, ev_S s0 (am_A s0.heap.size) q a v s0 s0.heap := by
  obtain ⟨A0, hT, hL⟩ := hF
  have h5 := ev_ln q hq
  have hw : ∀ w, w ∈ ev_ws q → w ∈ ev_L := fun w hw => ev_wsL hq hw
  have h1 : Cond.exactly (ev_tm q) "java/lang/String" ∈ ev_L := hw _ (List.mem_append_left _ (List.mem_of_getElem? (i := 0) rfl))
  have h2 : Cond.eq (.field (ev_tm q) "java/lang/String" "coder" "B") (.int 0) ∈ ev_L := hw _ (List.mem_append_left _ (List.mem_of_getElem? (i := 1) rfl))
  have h3 : Cond.arrayOf (ev_v q) .byte ∈ ev_L := hw _ (List.mem_append_left _ (List.mem_of_getElem? (i := 2) rfl))
  have h4 : Cond.eq (.length (ev_v q)) (.int (Int32.ofNat q.2.length)) ∈ ev_L := hw _ (List.mem_append_left _ (List.mem_of_getElem? (i := 3) rfl))
  have h6 := ev_ref hq
  have h8 : ∀ j, j < q.2.length → Cond.eq (.elem (ev_v q) (.int (Int32.ofNat j))) (.int ((ev_by q.2).getD j 0)) ∈ ev_L := fun j hj => hw _ (List.mem_append_right _ (List.mem_map.mpr ⟨j, List.mem_range.mpr hj, rfl⟩))
  have z : ∀ i : Nat, i < 1 → i = 0 := fun i hi => by omega
  obtain ⟨adK, adV, hS, he⟩ := vk_Sof (args := A0) (s := s0) (N := 1) (tm := fun _ => ev_tm q) (len := [q.2.length]) (byt := [ev_by q.2]) (A := am_A s0.heap.size)
    (by
      intro i hi
      rw [z i hi]
      show q.2.length < 2 ^ 31
      omega) (fun i _ => hL _ h1) (fun i _ => hL _ h2) (fun i _ => hL _ h3)
    (by
      intro i hi
      rw [z i hi]
      exact hL _ h4)
    (by
      intro i hi j hj
      rw [z i hi] at hj ⊢
      exact hL _ (h8 j hj))
    (fun i j hi hj hij => absurd hij (by rw [z i hi, z j hj]; exact fun w => w rfl)) (fun a ha => Nat.not_le.mpr ha)
  obtain ⟨s1, s2, s3, s4⟩ := hS.1 0 (by decide)
  exact ⟨adK 0, adV 0, vk_R.of (hT _ h6) (he 0 (by decide)), s1, s2, s3, s4⟩
theorem ev_S.at {s0 : State} {q : (Nat × Nat) × String} {a v : Nat} (h : ev_S s0 (am_A s0.heap.size) q a v s0 s0.heap) {U : State} {H : Heap} (hE : ev_E s0 U H) : ev_S s0 (am_A s0.heap.size) q a v U H := by
  obtain ⟨h1, h2, h3, h4, h5⟩ := h
  have hq : ∀ b : Nat, b < s0.heap.size → ¬ am_A s0.heap.size b → H[b]? = s0.heap[b]? := fun b hb _ => hE.2 b hb
  exact ⟨vk_R.warm hE.1 h1, va_O.moved hE.1.alike (h2.kept hq), va_OF.moved hE.1.alike (h3.kept hq), va_OF.moved hE.1.alike (h4.kept hq), va_T.moved hE.1.alike (h5.kept hq)⟩
/-- the addresses: the script's, the String constants' -/
theorem ev_sx {s0 : State} (hF : ev_F s0) (b : Nat) : ∃ sx adV : Nat → Nat, sx 0 = b ∧ ∀ (i : Nat) (q : (Nat × Nat) × String), (am_sk.zip am_sx)[i]? = some q → ev_S s0 (am_A s0.heap.size) q (sx (i + 1)) (adV i) s0 s0.heap := by
  have h0 : ∀ i : Nat, ∃ z : Nat × Nat, ∀ q, (am_sk.zip am_sx)[i]? = some q → ev_S s0 (am_A s0.heap.size) q z.1 z.2 s0 s0.heap := by
    intro i
    cases hi : (am_sk.zip am_sx)[i]? with
    | none => exact ⟨(0, 0), fun q hq => by cases hq⟩
    | some q =>
      obtain ⟨a, v, h⟩ := ev_str hF (List.mem_of_getElem? hi)
      exact ⟨(a, v), fun q2 hq => by cases hq; exact h⟩
  obtain ⟨f, hf⟩ := Classical.axiomOfChoice h0
  exact ⟨fun k => match k with
    | 0 => b
    | i + 1 => (f i).1, fun i => (f i).2, rfl, fun i q hq => hf i q hq⟩
theorem ev_sk : ∀ o, o < 12 → ∀ q ∈ am_sT o, ∃ tx, (am_sk.zip am_sx)[q.2]? = some ((o, q.1), tx) ∧ am_sx[q.2]? = some tx := by
  intro o ho q hq
  have h : ∀ o, o < 12 → ∀ q ∈ am_sT o, (am_sk.zip am_sx)[q.2]? = some ((o, q.1), (am_sx[q.2]?).getD "") ∧ am_sx[q.2]? = some ((am_sx[q.2]?).getD "") := by decide +kernel
  exact ⟨_, h o ho q hq⟩
theorem ev_sT12 : ∀ o, 12 ≤ o → am_sT o = [] := by
  intro o ho
  match o, ho with
  | k + 12, _ => rfl
theorem ev_strR {s0 : State} {sx adV : Nat → Nat} (hS : ∀ (i : Nat) (q : (Nat × Nat) × String), (am_sk.zip am_sx)[i]? = some q → ev_S s0 (am_A s0.heap.size) q (sx (i + 1)) (adV i) s0 s0.heap) : am_strR sx (ev_E s0) := by
  intro U H own ix i hE hf
  have hm := am_find_mem hf
  by_cases ho : own < 12
  · obtain ⟨tx, h1, -⟩ := ev_sk own ho (ix, i) hm
    exact ⟨tx, vk_R.warm hE.1 (hS i _ h1).1⟩
  · rw [ev_sT12 own (by omega)] at hm
    exact absurd hm List.not_mem_nil
/-! the texts of exceptions -/
def ev_px : List (Nat × Nat × Nat) := [(4, 78, 230), (4, 87, 260), (4, 91, 277), (4, 100, 306), (4, 106, 322), (4, 219, 385), (5, 11, 402), (5, 34, 441), (5, 154, 631), (5, 196, 656), (5, 204, 680), (5, 220, 705), (6, 37, 750), (6, 56, 783), (6, 79, 802), (6, 95, 826), (6, 109, 853), (3, 55, 112), (3, 68, 144), (3, 88, 172), (4, 74, 212), (4, 135, 350), (4, 153, 366)]
theorem ev_xx (i : Nat) (hi : i < 23) : (am_tb (ev_px.getD i (0, 0, 0)).1)[(ev_px.getD i (0, 0, 0)).2.1]? = some (Cond.stringRef (am_cn (am_xx.getD i (0, 0, "")).1) (am_xx.getD i (0, 0, "")).2.1 (am_xx.getD i (0, 0, "")).2.2) ∧ ev_L[(ev_px.getD i (0, 0, 0)).2.2]? = some (Cond.exactly (.string (am_cn (am_xx.getD i (0, 0, "")).1) (am_xx.getD i (0, 0, "")).2.1) "java/lang/String") := by
  have h : ∀ i, i < 23 → (am_tb (ev_px.getD i (0, 0, 0)).1)[(ev_px.getD i (0, 0, 0)).2.1]? = some (Cond.stringRef (am_cn (am_xx.getD i (0, 0, "")).1) (am_xx.getD i (0, 0, "")).2.1 (am_xx.getD i (0, 0, "")).2.2) ∧ ev_L[(ev_px.getD i (0, 0, 0)).2.2]? = some (Cond.exactly (.string (am_cn (am_xx.getD i (0, 0, "")).1) (am_xx.getD i (0, 0, "")).2.1) "java/lang/String") := by decide +kernel
  exact h i hi
theorem ev_xt : ∀ q ∈ am_xxT 9, ∃ i, i < 23 ∧ am_xx.getD i (0, 0, "") = (9, q.1, q.2) := by
  intro q hq
  have h : ∀ q ∈ am_xxT 9, (List.range 23).any (fun i => decide (am_xx.getD i (0, 0, "") = (9, q.1, q.2))) = true := by decide +kernel
  obtain ⟨i, h1, h2⟩ := List.any_eq_true.mp (h q hq)
  exact ⟨i, List.mem_range.mp h1, of_decide_eq_true h2⟩
theorem ev_R {s0 : State} (hF : ev_F s0) {q : Nat × String} (hq : q ∈ am_xxT 9) : ∃ a : Nat, vk_R RX9 q.1 q.2 a s0 := by
  obtain ⟨A0, hT, hL⟩ := hF
  obtain ⟨i, hi, e⟩ := ev_xt q hq
  obtain ⟨h1, h2⟩ := ev_xx i hi
  rw [e] at h1 h2
  obtain ⟨a, c, cA, kA, q1, -⟩ := Cond.exactly_spec (args := A0) (first := s0) (o := none) (s := s0) (idx := []) (hL _ (List.mem_of_getElem? h2))
  exact ⟨a, vk_R.of (hT _ (am_tb_in _ _ (List.mem_of_getElem? h1))) q1⟩
