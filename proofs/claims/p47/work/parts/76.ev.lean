/-! THE WORLD OUTSIDE: what the law's start says of it, kept in every state behind; written by program (wip/p47tools/l76.py) -/
/-- every state behind s0: warmed, the old cells as they were -/
def ev_E (s0 : State) (U : State) (H : Heap) : Prop := s0.WarmedH U.vm ∧ ∀ a : Nat, a < s0.heap.size → H[a]? = s0.heap[a]?
abbrev ev_L : List Cond := flatC (Jvm.Cond.and given_1 narrow_1)
def ev_F (s0 : State) : Prop := ∃ A0 : Array Value, (∀ w ∈ lw_tbl, w.before A0 s0 = true) ∧ ∀ w ∈ ev_L, w.before A0 s0 = true
/-- a region of cells that leaves out the start's, what is known behind the start -/
def ev_B (s0 : State) (A : Nat → Prop) (EV : State → Heap → Prop) : Prop := (∀ a : Nat, a < s0.heap.size → ¬ A a) ∧ ∀ (U : State) (H : Heap), EV U H → ev_E s0 U H
theorem ev_bse {l : Launch} {A : Nat → Prop} {EV : State → Heap → Prop} (h : am_bse l A EV) : l.stackTraces = false ∧ ∃ s0, ev_F s0 ∧ ev_B s0 A EV := h
theorem ev_q {s0 U : State} {H : Heap} {A : Nat → Prop} {EV : State → Heap → Prop} (hB : ev_B s0 A EV) (hE : EV U H) : ∀ b : Nat, b < s0.heap.size → ¬ A b → H[b]? = s0.heap[b]? := fun b hb _ => (hB.2 U H hE).2 b hb
theorem ev_m (s0 : State) {A : Nat → Prop} (hA : ∀ a : Nat, a < s0.heap.size → ¬ A a) : am_EVm A (ev_E s0) := by
  refine ⟨fun u U H hW h => ⟨State.WarmedH.trans h.1 hW, h.2⟩, fun U H H1 hq h => ⟨h.1, fun a ha => ?_⟩⟩
  have h1 := h.2 a ha
  have h2 : a < H.size := by
    rw [Array.getElem?_eq_getElem ha] at h1
    exact (Array.getElem?_eq_some_iff.mp h1).1
  rw [hq a h2 (hA a ha)]
  exact h1
theorem ev_tbl {w : Cond} (h : w ∈ tables_1) : w ∈ lw_tbl := List.mem_append_right _ h
theorem ev_nw {s0 : State} (hF : ev_F s0) {A : Nat → Prop} {EV : State → Heap → Prop} (hB : ev_B s0 A EV) : am_nwR EV := by
  obtain ⟨A0, hT, -⟩ := hF
  intro U H hE
  refine ⟨fun o ho q hq => ?_, fun o q hq => ?_⟩
  · exact va_Nw.warmF (hB.2 U H hE).1 (va_Nw.of rfl (hT _ (ev_tbl (am_fN_ok o ho q hq).2.2.2)))
  · exact va_Nw.warmM (hB.2 U H hE).1 (va_Nw.of rfl (hT _ (ev_tbl (am_iN_ok o q hq).1.2)))
def ev_pc : List (Nat × Nat) := [(0, 0), (2, 63), (3, 137), (1, 71), (2, 139), (3, 59)]
theorem ev_cast (i : Nat) (h0 : 0 < i) (hi : i < 6) : Cond.castable (am_en i) (am_en i) ∈ lw_tbl := by
  have h : ∀ i, i < 6 → 0 < i → (am_tb (ev_pc.getD i (0, 0)).1)[(ev_pc.getD i (0, 0)).2]? = some (Cond.castable (am_en i) (am_en i)) := by decide +kernel
  exact am_tb_in _ _ (List.mem_of_getElem? (h i hi h0))
def ev_pn : List (List Nat) := [[0, 0, 0, 0, 0, 0], [0, 0, 296, 244, 229, 279], [0, 266, 0, 249, 233, 283], [0, 261, 295, 0, 228, 278], [0, 262, 297, 245, 0, 280], [0, 263, 298, 246, 230, 0]]
theorem ev_not (i : Nat) (h0 : 0 < i) (hi : i < 6) (j : Nat) (j0 : 0 < j) (hj : j < 6) (hij : i ≠ j) : Cond.not (.castable (am_en i) (am_en j)) ∈ ev_L := by
  have h : ∀ i, i < 6 → ∀ j, j < 6 → (0 < i ∧ 0 < j ∧ i ≠ j) → ev_L[(ev_pn.getD i []).getD j 0]? = some (Cond.not (.castable (am_en i) (am_en j))) := by decide +kernel
  exact List.mem_of_getElem? (h i hi j hj ⟨h0, j0, hij⟩)
theorem ev_x {s0 : State} (hF : ev_F s0) {A : Nat → Prop} {EV : State → Heap → Prop} (hB : ev_B s0 A EV) : am_exR EV := by
  obtain ⟨A0, hT, hL⟩ := hF
  exact ⟨fun U H hE i h0 hi => va_Nw.warmC (hB.2 U H hE).1 (va_Nw.of rfl (hT _ (ev_cast i h0 hi))), fun U H hE i j h0 hi j0 hj hij => va_Nc.moved (hB.2 U H hE).1.alike (va_Nc.of (hL _ (ev_not i h0 hi j j0 hj hij)))⟩
/-! strings -/
def ev_tm (q : (Nat × Nat) × String) : Term := .string (am_cn q.1.1) q.1.2
def ev_v (q : (Nat × Nat) × String) : Term := .field (ev_tm q) "java/lang/String" "value" "[B"
def ev_by (tx : String) : List Int32 := tx.toList.map fun c => Int32.ofNat c.toNat
def ev_ws (q : (Nat × Nat) × String) : List Cond :=
  [.exactly (ev_tm q) "java/lang/String", .eq (.field (ev_tm q) "java/lang/String" "coder" "B") (.int 0), .arrayOf (ev_v q) .byte, .eq (.length (ev_v q)) (.int (Int32.ofNat q.2.length))] ++
  (List.range q.2.length).map fun j => .eq (.elem (ev_v q) (.int (Int32.ofNat j))) (.int ((ev_by q.2).getD j 0))
/-- the law's own texts -/
def mc_z : List ((Nat × Nat) × String) := [((11, 165), "post "), ((11, 174), " "), ((11, 176), ";pass "), ((11, 182), ";cross "), ((11, 184), ";fog "), ((11, 186), ";settle "), ((11, 188), "+")]
def ev_z : List ((Nat × Nat) × String) := am_sk.zip am_sx ++ mc_z
def ev_zl : List Nat := [676, 694, 703, 715, 727, 740, 755, 766, 778, 788, 804, 815, 828, 580, 589, 594, 611, 622, 631, 643]
theorem ev_zz : ∀ i, i < 20 → (ev_z[i]?).map (fun q => (ev_L.drop (ev_zl.getD i 0)).take (ev_ws q).length) = (ev_z[i]?).map ev_ws := by decide +kernel
theorem ev_zn : ev_z.length = 20 := by decide +kernel
theorem ev_wsL {q : (Nat × Nat) × String} (hq : q ∈ ev_z) {w : Cond} (hw : w ∈ ev_ws q) : w ∈ ev_L := by
  obtain ⟨i, hi⟩ := List.mem_iff_getElem?.mp hq
  have hl : i < 20 := by
    rw [← ev_zn]
    exact (List.getElem?_eq_some_iff.mp hi).1
  have h := ev_zz i hl
  rw [hi] at h
  have h2 : (ev_L.drop (ev_zl.getD i 0)).take (ev_ws q).length = ev_ws q := Option.some.inj h
  rw [← h2] at hw
  exact List.mem_of_mem_drop (List.mem_of_mem_take hw)
def ev_zr : List (Nat × Nat) := [(6, 70), (6, 71), (6, 72), (6, 73), (6, 74), (6, 75), (6, 76), (6, 77), (6, 78), (6, 79), (6, 80), (6, 81), (6, 82), (5, 50), (5, 190), (5, 191), (6, 15), (6, 16), (6, 17), (6, 18)]
theorem ev_ref {q : (Nat × Nat) × String} (hq : q ∈ ev_z) : Cond.stringRef (am_cn q.1.1) q.1.2 q.2 ∈ lw_tbl := by
  have h : ∀ i, i < 20 → (ev_z[i]?).map (fun q => Cond.stringRef (am_cn q.1.1) q.1.2 q.2) = (am_tb (ev_zr.getD i (0, 0)).1)[(ev_zr.getD i (0, 0)).2]? := by decide +kernel
  obtain ⟨i, hi⟩ := List.mem_iff_getElem?.mp hq
  have hl : i < 20 := by
    rw [← ev_zn]
    exact (List.getElem?_eq_some_iff.mp hi).1
  have h2 := h i hl
  rw [hi] at h2
  exact am_tb_in _ _ (List.mem_of_getElem? h2.symm)
theorem ev_ln : ∀ q ∈ ev_z, q.2.length < 100 ∧ (ev_by q.2).length = q.2.length ∧ ∀ c ∈ q.2.toList, c.toNat < 128 := by decide +kernel
/-- a String: its class, its coder, its bytes -/
def ev_S (A : Nat → Prop) (ty : String) (a v : Nat) (U : State) (H : Heap) : Prop :=
  va_O "java/lang/String" a A U H ∧ va_OF "java/lang/String" "coder" "B" (.int 0) a A U H ∧ va_OF "java/lang/String" "value" "[B" (.ref v) a A U H ∧ va_T .byte v ty.length (fun j => .int ((ev_by ty).getD j 0)) A U H
theorem ev_str {s0 : State} (hF : ev_F s0) {A : Nat → Prop} (hA : ∀ a : Nat, a < s0.heap.size → ¬ A a) {q : (Nat × Nat) × String} (hq : q ∈ ev_z) : ∃ a v : Nat, vk_R (am_cn q.1.1) q.1.2 q.2 a s0 ∧ ev_S A q.2 a v s0 s0.heap := by
  obtain ⟨A0, hT, hL⟩ := hF
  have h5 := ev_ln q hq
  have hw : ∀ w, w ∈ ev_ws q → w ∈ ev_L := fun w hw => ev_wsL hq hw
  have h1 : Cond.exactly (ev_tm q) "java/lang/String" ∈ ev_L := hw _ (List.mem_append_left _ (List.mem_of_getElem? (i := 0) rfl))
  have h2 : Cond.eq (.field (ev_tm q) "java/lang/String" "coder" "B") (.int 0) ∈ ev_L := hw _ (List.mem_append_left _ (List.mem_of_getElem? (i := 1) rfl))
  have h3 : Cond.arrayOf (ev_v q) .byte ∈ ev_L := hw _ (List.mem_append_left _ (List.mem_of_getElem? (i := 2) rfl))
  have h4 : Cond.eq (.length (ev_v q)) (.int (Int32.ofNat q.2.length)) ∈ ev_L := hw _ (List.mem_append_left _ (List.mem_of_getElem? (i := 3) rfl))
  have h6 := ev_ref hq
  have h8 : ∀ j, j < q.2.length → Cond.eq (.elem (ev_v q) (.int (Int32.ofNat j))) (.int ((ev_by q.2).getD j 0)) ∈ ev_L := fun j hj => hw _ (List.mem_append_right _ (List.mem_map.mpr ⟨j, List.mem_range.mpr hj, rfl⟩))
  have z : ∀ i : Nat, i < 1 → i = 0 := fun i hi => by omega
  obtain ⟨adK, adV, hS, he⟩ := vk_Sof (args := A0) (s := s0) (N := 1) (tm := fun _ => ev_tm q) (len := [q.2.length]) (byt := [ev_by q.2]) (A := A)
    (by
      intro i hi
      rw [z i hi]
      show q.2.length < 2 ^ 31
      omega) (fun i _ => hL _ h1) (fun i _ => hL _ h2) (fun i _ => hL _ h3)
    (by
      intro i hi
      rw [z i hi]
      exact hL _ h4)
    (by
      intro i hi j hj
      rw [z i hi] at hj ⊢
      exact hL _ (h8 j hj))
    (fun i j hi hj hij => absurd hij (by rw [z i hi, z j hj]; exact fun w => w rfl)) hA
  obtain ⟨s1, s2, s3, s4⟩ := hS.1 0 (by decide)
  exact ⟨adK 0, adV 0, vk_R.of (hT _ h6) (he 0 (by decide)), s1, s2, s3, s4⟩
theorem ev_S.go {A : Nat → Prop} {ty : String} {a v : Nat} {u U : State} {H0 H : Heap} (h : ev_S A ty a v u H0) (hU : u.vm.Alike U.vm) (hq : ∀ b : Nat, b < H0.size → ¬ A b → H[b]? = H0[b]?) : ev_S A ty a v U H := by
  obtain ⟨h2, h3, h4, h5⟩ := h
  exact ⟨va_O.moved hU (h2.kept hq), va_OF.moved hU (h3.kept hq), va_OF.moved hU (h4.kept hq), va_T.moved hU (h5.kept hq)⟩
theorem ev_S.at {s0 : State} {A : Nat → Prop} {EV : State → Heap → Prop} (hB : ev_B s0 A EV) {ty : String} {a v : Nat} (h : ev_S A ty a v s0 s0.heap) {U : State} {H : Heap} (hE : EV U H) : ev_S A ty a v U H := h.go (hB.2 U H hE).1.alike (ev_q hB hE)
/-- the addresses: the script's, the String constants' -/
theorem ev_sx {s0 : State} (hF : ev_F s0) {A : Nat → Prop} (hA : ∀ a : Nat, a < s0.heap.size → ¬ A a) (b : Nat) : ∃ sx adV : Nat → Nat, sx 0 = b ∧ ∀ (i : Nat) (q : (Nat × Nat) × String), (am_sk.zip am_sx)[i]? = some q → vk_R (am_cn q.1.1) q.1.2 q.2 (sx (i + 1)) s0 ∧ ev_S A q.2 (sx (i + 1)) (adV i) s0 s0.heap := by
  have h0 : ∀ i : Nat, ∃ z : Nat × Nat, ∀ q, (am_sk.zip am_sx)[i]? = some q → vk_R (am_cn q.1.1) q.1.2 q.2 z.1 s0 ∧ ev_S A q.2 z.1 z.2 s0 s0.heap := by
    intro i
    cases hi : (am_sk.zip am_sx)[i]? with
    | none => exact ⟨(0, 0), fun q hq => by cases hq⟩
    | some q =>
      obtain ⟨a, v, h⟩ := ev_str hF hA (q := q) (List.mem_append_left _ (List.mem_of_getElem? hi))
      exact ⟨(a, v), fun q2 hq => by cases hq; exact h⟩
  obtain ⟨f, hf⟩ := Classical.axiomOfChoice h0
  exact ⟨fun k => match k with
    | 0 => b
    | i + 1 => (f i).1, fun i => (f i).2, rfl, fun i q hq => hf i q hq⟩
theorem ev_sk : ∀ o, o < 12 → ∀ q ∈ am_sT o, ∃ tx, (am_sk.zip am_sx)[q.2]? = some ((o, q.1), tx) ∧ am_sx[q.2]? = some tx := by
  intro o ho q hq
  have h : ∀ o, o < 12 → ∀ q ∈ am_sT o, (am_sk.zip am_sx)[q.2]? = some ((o, q.1), (am_sx[q.2]?).getD "") ∧ am_sx[q.2]? = some ((am_sx[q.2]?).getD "") := by decide +kernel
  exact ⟨_, h o ho q hq⟩
theorem ev_sT12 : ∀ o, 12 ≤ o → am_sT o = [] := by
  intro o ho
  match o, ho with
  | k + 12, _ => rfl
theorem ev_strR {s0 : State} {A : Nat → Prop} {EV : State → Heap → Prop} (hB : ev_B s0 A EV) {sx adV : Nat → Nat} (hS : ∀ (i : Nat) (q : (Nat × Nat) × String), (am_sk.zip am_sx)[i]? = some q → vk_R (am_cn q.1.1) q.1.2 q.2 (sx (i + 1)) s0 ∧ ev_S A q.2 (sx (i + 1)) (adV i) s0 s0.heap) : am_strR sx EV := by
  intro U H own ix i hE hf
  have hm := am_find_mem hf
  by_cases ho : own < 12
  · obtain ⟨tx, h1, -⟩ := ev_sk own ho (ix, i) hm
    exact ⟨tx, vk_R.warm (hB.2 U H hE).1 (hS i _ h1).1⟩
  · rw [ev_sT12 own (by omega)] at hm
    exact absurd hm List.not_mem_nil
/-! the texts of exceptions -/
def ev_px : List (Nat × Nat × Nat) := [(6, 155, 887), (6, 161, 917), (6, 165, 934), (6, 171, 963), (6, 177, 979), (3, 94, 473), (3, 126, 490), (6, 51, 648), (6, 111, 838), (6, 146, 863), (2, 70, 335), (3, 144, 529), (3, 171, 556), (2, 131, 354), (2, 132, 386), (2, 146, 414), (2, 17, 317), (1, 115, 301), (3, 66, 454), (5, 50, 580), (5, 191, 594), (6, 15, 611), (6, 16, 622), (6, 17, 631), (6, 18, 643)]
theorem ev_xx (i : Nat) (hi : i < 25) : (am_tb (ev_px.getD i (0, 0, 0)).1)[(ev_px.getD i (0, 0, 0)).2.1]? = some (Cond.stringRef (am_cn (am_xx.getD i (0, 0, "")).1) (am_xx.getD i (0, 0, "")).2.1 (am_xx.getD i (0, 0, "")).2.2) ∧ ev_L[(ev_px.getD i (0, 0, 0)).2.2]? = some (Cond.exactly (.string (am_cn (am_xx.getD i (0, 0, "")).1) (am_xx.getD i (0, 0, "")).2.1) "java/lang/String") := by
  have h : ∀ i, i < 25 → (am_tb (ev_px.getD i (0, 0, 0)).1)[(ev_px.getD i (0, 0, 0)).2.1]? = some (Cond.stringRef (am_cn (am_xx.getD i (0, 0, "")).1) (am_xx.getD i (0, 0, "")).2.1 (am_xx.getD i (0, 0, "")).2.2) ∧ ev_L[(ev_px.getD i (0, 0, 0)).2.2]? = some (Cond.exactly (.string (am_cn (am_xx.getD i (0, 0, "")).1) (am_xx.getD i (0, 0, "")).2.1) "java/lang/String") := by decide +kernel
  exact h i hi
theorem ev_xt : ∀ q ∈ am_xxT 9, ∃ i, i < 25 ∧ am_xx.getD i (0, 0, "") = (9, q.1, q.2) := by
  intro q hq
  have h : ∀ q ∈ am_xxT 9, (List.range 25).any (fun i => decide (am_xx.getD i (0, 0, "") = (9, q.1, q.2))) = true := by decide +kernel
  obtain ⟨i, h1, h2⟩ := List.any_eq_true.mp (h q hq)
  exact ⟨i, List.mem_range.mp h1, of_decide_eq_true h2⟩
theorem ev_R {s0 : State} (hF : ev_F s0) {q : Nat × String} (hq : q ∈ am_xxT 9) : ∃ a : Nat, vk_R RX9 q.1 q.2 a s0 := by
  obtain ⟨A0, hT, hL⟩ := hF
  obtain ⟨i, hi, e⟩ := ev_xt q hq
  obtain ⟨h1, h2⟩ := ev_xx i hi
  rw [e] at h1 h2
  obtain ⟨a, c, cA, kA, q1, -⟩ := Cond.exactly_spec (args := A0) (first := s0) (o := none) (s := s0) (idx := []) (hL _ (List.mem_of_getElem? h2))
  exact ⟨a, vk_R.of (hT _ (am_tb_in _ _ (List.mem_of_getElem? h1))) q1⟩
