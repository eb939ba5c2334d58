/-! THE LAW'S MACHINE: runs with longs and doubles, handlers, the script; how many things are thrown is counted -/
def aw_R (L : Nat) (xs : Nat → Int32) (d : Nat) (mt : am_M1) (pc : Nat) (lv : am_L) (st : List Value) (s : az_S) (gl : Nat → Nat → Int64) (gd : Nat → Nat → UInt64) (N : Nat) (Q : Option Value ⊕ Nat → az_S → (Nat → Nat → Int64) → (Nat → Nat → UInt64) → Prop) : Prop :=
  ∃ n o t gl2 gd2 c, am_run L xs n d mt pc lv st (az_K, az_G s, gl, gd) false = some (o, (az_K, az_G t, gl2, gd2), false, c, 6 * c) ∧ c ≤ N ∧ Q o t gl2 gd2
section AWR
variable {L : Nat} {xs : Nat → Int32} {d : Nat} {mt : am_M1} {pc : Nat} {lv : am_L} {s : az_S} {gl : Nat → Nat → Int64} {gd : Nat → Nat → UInt64} {N : Nat} {Q : Option Value ⊕ Nat → az_S → (Nat → Nat → Int64) → (Nat → Nat → UInt64) → Prop}
/-- a simple instruction -/
theorem aw_s {st : List Value} {ins : Instr} {len : Nat} (pc2 : Nat) (lv2 : am_L) (st2 : List Value) (hf : am_find pc (am_c mt) = some (ins, len)) (h1 : am_simple ins len pc lv st = some (pc2, lv2, st2)) (H : aw_R L xs d mt pc2 lv2 st2 s gl gd N Q) : aw_R L xs d mt pc lv st s gl gd N Q := by
  obtain ⟨n, o, t, gl2, gd2, c, h2, h3⟩ := H
  exact ⟨n + 1, o, t, gl2, gd2, c, by rw [am_1s hf h1]; exact h2, h3⟩
/-- an instruction on the heap -/
theorem aw_h {st : List Value} {ins : Instr} {len : Nat} (pc2 : Nat) (st2 : List Value) (s2 : az_S) (gl2 : Nat → Nat → Int64) (gd2 : Nat → Nat → UInt64) (hf : am_find pc (am_c mt) = some (ins, len)) (h1 : am_simple ins len pc lv st = none) (hh : am_heap L xs mt ins st (az_K, az_G s, gl, gd) false = some (st2, (az_K, az_G s2, gl2, gd2), false, 0, 0)) (hp : pc + len = pc2) (H : aw_R L xs d mt pc2 lv st2 s2 gl2 gd2 N Q) : aw_R L xs d mt pc lv st s gl gd N Q := by
  obtain ⟨n, o, t, gl3, gd3, c, h2, h3⟩ := H
  exact ⟨n + 1, o, t, gl3, gd3, c, by rw [am_1h hf h1 hh, hp]; exact h2, h3⟩
theorem aw_1c {n : Nat} {m2 : am_M1} {st as rest : List Value} {h h2 : am_H} {ins : Instr} {len c k : Nat} {v : Option Value} (hf : am_find pc (am_c mt) = some (ins, len)) (h1 : am_simple ins len pc lv st = none) (hh : am_heap L xs mt ins st h false = none) (hc : am_call mt ins st h = some (m2, as, rest)) (hr : am_run L xs n d m2 0 (am_ini (am_mL m2) as) [] h false = some (.inl v, h2, false, c, k)) : am_run L xs (n + 1) (d + 1) mt pc lv st h false = (am_run L xs n (d + 1) mt (pc + len) lv (v.toList ++ rest) h2 false).map (am_add c k) := by
  conv => lhs; unfold am_run
  rw [hf]
  dsimp only
  rw [h1]
  dsimp only
  rw [hh]
  dsimp only
  rw [hc]
  dsimp only
  rw [hr]
theorem aw_1t {n : Nat} {m2 : am_M1} {st as rest : List Value} {h h2 : am_H} {ins : Instr} {len E hp pc2 c k : Nat} {lv2 : am_L} (hf : am_find pc (am_c mt) = some (ins, len)) (h1 : am_simple ins len pc lv st = none) (hh : am_heap L xs mt ins st h false = none) (hc : am_call mt ins st h = some (m2, as, rest)) (hr : am_run L xs n d m2 0 (am_ini (am_mL m2) as) [] h false = some (.inr E, h2, false, c, k)) (ha : am_hand (am_own mt) pc E (am_hh mt) = some (some hp)) (hg : am_caught mt hp lv = some (pc2, lv2)) : am_run L xs (n + 1) (d + 1) mt pc lv st h false = (am_run L xs n (d + 1) mt pc2 lv2 [] h2 false).map (am_add c k) := by
  conv => lhs; unfold am_run
  rw [hf]
  dsimp only
  rw [h1]
  dsimp only
  rw [hh]
  dsimp only
  rw [hc]
  dsimp only
  rw [hr]
  dsimp only
  rw [ha]
  dsimp only
  rw [hg]
/-- a call of a method of the Z machine, which may throw what is caught here -/
theorem aw_c {st as rest : List az_V} {ins : Instr} {len : Nat} {m2 : am_M1} {Q2 : az_O → az_S → Prop} (pc2 : Nat) (hf : am_find pc (am_c mt) = some (ins, len)) (hc : az_call mt ins st = some (m2, as, rest)) (hp : pc + len = pc2) (H : az_R d m2 0 (az_ini (am_mL m2) as) [] s Q2)
    (H1 : ∀ v t, Q2 (.inl v) t → aw_R L xs (d + 1) mt pc2 lv (v.toList ++ rest |>.map az_e) t gl gd N Q)
    (H2 : ∀ E t, Q2 (.inr E) t → ∃ hp pc3 lv2 N0, N = N0 + 1 ∧ am_hand (am_own mt) pc E (am_hh mt) = some (some hp) ∧ am_caught mt hp lv = some (pc3, lv2) ∧ aw_R L xs (d + 1) mt pc3 lv2 [] t gl gd N0 Q) : aw_R L xs (d + 1) mt pc lv (st.map az_e) s gl gd N Q := by
  obtain ⟨n1, o, t, h1, h2⟩ := H L xs gl gd
  obtain ⟨c1, c2, c3⟩ := az_call_ok (s := s) hc len pc L xs gl gd lv
  rw [az_ini_ok] at h1
  cases o with
  | inl v =>
    obtain ⟨n2, o2, t2, gl2, gd2, c, h3, h4, h5⟩ := H1 v t h2
    refine ⟨max n1 n2 + 1, o2, t2, gl2, gd2, c, ?_, h4, h5⟩
    have h1' := am_mono n1 (max n1 n2) _ _ _ _ _ _ _ _ _ (Nat.le_max_left _ _) (Nat.le_refl _) h1
    have h3' := am_mono n2 (max n1 n2) _ _ _ _ _ _ _ _ _ (Nat.le_max_right _ _) (Nat.le_refl _) h3
    rw [am_1c hf c1 c2 c3 h1', hp, ← h3']
    congr 1
    cases v <;> rfl
  | inr E =>
    obtain ⟨hp2, pc3, lv2, N0, e0, e1, e2, n2, o2, t2, gl2, gd2, c, h3, h4, h5⟩ := H2 E t h2
    refine ⟨max n1 n2 + 1, o2, t2, gl2, gd2, c + 1, ?_, by omega, h5⟩
    have h1' := am_mono n1 (max n1 n2) _ _ _ _ _ _ _ _ _ (Nat.le_max_left _ _) (Nat.le_refl _) h1
    have h3' := am_mono n2 (max n1 n2) _ _ _ _ _ _ _ _ _ (Nat.le_max_right _ _) (Nat.le_refl _) h3
    rw [aw_1t hf c1 c2 c3 h1' e1 e2, h3']
    show some (am_add 1 (6 * 1) _) = _
    unfold am_add
    dsimp only
    rw [show 1 + c = c + 1 from by omega, show 6 * 1 + 6 * c = 6 * (c + 1) from by omega]
/-- a call of a method of the law, which throws nothing -/
theorem aw_w {st as rest : List az_V} {ins : Instr} {len N1 N2 : Nat} {m2 : am_M1} {Q2 : Option Value ⊕ Nat → az_S → (Nat → Nat → Int64) → (Nat → Nat → UInt64) → Prop} (pc2 : Nat) (hf : am_find pc (am_c mt) = some (ins, len)) (hc : az_call mt ins st = some (m2, as, rest)) (hp : pc + len = pc2) (hN : N1 + N2 = N) (H : aw_R L xs d m2 0 (am_ini (am_mL m2) (as.map az_e)) [] s gl gd N1 Q2)
    (H1 : ∀ v t gl2 gd2, Q2 (.inl v) t gl2 gd2 → aw_R L xs (d + 1) mt pc2 lv (v.toList ++ rest.map az_e) t gl2 gd2 N2 Q) (H2 : ∀ E t gl2 gd2, ¬ Q2 (.inr E) t gl2 gd2) : aw_R L xs (d + 1) mt pc lv (st.map az_e) s gl gd N Q := by
  obtain ⟨n1, o, t, gl2, gd2, k, h1, hk, h2⟩ := H
  obtain ⟨c1, c2, c3⟩ := az_call_ok (s := s) hc len pc L xs gl gd lv
  cases o with
  | inl v =>
    obtain ⟨n2, o2, t2, gl3, gd3, c, h3, h4, h5⟩ := H1 v t gl2 gd2 h2
    refine ⟨max n1 n2 + 1, o2, t2, gl3, gd3, k + c, ?_, by omega, h5⟩
    have h1' := am_mono n1 (max n1 n2) _ _ _ _ _ _ _ _ _ (Nat.le_max_left _ _) (Nat.le_refl _) h1
    have h3' := am_mono n2 (max n1 n2) _ _ _ _ _ _ _ _ _ (Nat.le_max_right _ _) (Nat.le_refl _) h3
    rw [aw_1c hf c1 c2 c3 h1', hp, h3']
    show some (am_add k (6 * k) _) = _
    unfold am_add
    dsimp only
    rw [show 6 * k + 6 * c = 6 * (k + c) from by omega]
  | inr E => exact absurd h2 (H2 E t gl2 gd2)
/-- the end -/
theorem aw_end {st : List Value} {ins : Instr} {len : Nat} {v : Option Value} (hf : am_find pc (am_c mt) = some (ins, len)) (h1 : am_simple ins len pc lv st = none) (hh : am_heap L xs mt ins st (az_K, az_G s, gl, gd) false = none) (hc : am_call mt ins st (az_K, az_G s, gl, gd) = none) (hr : am_ret (am_rt mt) ins st = some v) (hQ : Q (.inl v) s gl gd) : aw_R L xs d mt pc lv st s gl gd N Q := by
  refine ⟨1, .inl v, s, gl, gd, 0, ?_, Nat.zero_le _, hQ⟩
  conv => lhs; unfold am_run
  rw [hf]
  dsimp only
  rw [h1]
  dsimp only
  rw [hh]
  dsimp only
  rw [hc]
  dsimp only
  rw [hr]
theorem aw_wk {st : List Value} {N2 : Nat} {Q2 : Option Value ⊕ Nat → az_S → (Nat → Nat → Int64) → (Nat → Nat → UInt64) → Prop} (H : aw_R L xs d mt pc lv st s gl gd N Q) (hN : N ≤ N2) (h : ∀ o t gl2 gd2, Q o t gl2 gd2 → Q2 o t gl2 gd2) : aw_R L xs d mt pc lv st s gl gd N2 Q2 := by
  obtain ⟨n, o, t, gl2, gd2, c, h2, h3, h4⟩ := H
  exact ⟨n, o, t, gl2, gd2, c, h2, by omega, h o t gl2 gd2 h4⟩
end AWR
/-- what is known of the end of a run is true somewhere -/
theorem az_ex {d : Nat} {mt : am_M1} {pc : Nat} {lv : az_L} {st : List az_V} {s : az_S} {Q : az_O → az_S → Prop} (H : az_R d mt pc lv st s Q) : ∃ o t, Q o t := by
  obtain ⟨n, o, t, h1, h2⟩ := H 0 (fun _ => 0) (fun _ _ => 0) (fun _ _ => 0)
  exact ⟨o, t, h2⟩
/-- the long written, the double written -/
theorem aw_ls {L : Nat} {xs : Nat → Int32} {mt : am_M1} {g : Nat → Nat → Int32} {gl : Nat → Nat → Int64} {gd : Nat → Nat → UInt64} {x : Int64} {st : List Value} : am_heap L xs mt .lastore (.long x :: .int (Int32.ofInt 0) :: .ref 43 :: st) (az_K, g, gl, gd) false = some (st, (az_K, g, am_up gl 43 0 x, gd), false, 0, 0) := rfl
theorem aw_ll {L : Nat} {xs : Nat → Int32} {mt : am_M1} {g : Nat → Nat → Int32} {gl : Nat → Nat → Int64} {gd : Nat → Nat → UInt64} {st : List Value} : am_heap L xs mt .laload (.int (Int32.ofInt 0) :: .ref 43 :: st) (az_K, g, gl, gd) false = some (.long (gl 43 0) :: st, (az_K, g, gl, gd), false, 0, 0) := rfl
theorem aw_ds {L : Nat} {xs : Nat → Int32} {mt : am_M1} {g : Nat → Nat → Int32} {gl : Nat → Nat → Int64} {gd : Nat → Nat → UInt64} {x : UInt64} {st : List Value} : am_heap L xs mt .dastore (.double x :: .int (Int32.ofInt 0) :: .ref 44 :: st) (az_K, g, gl, gd) false = some (st, (az_K, g, gl, am_up gd 44 0 x), false, 0, 0) := rfl
theorem aw_dl {L : Nat} {xs : Nat → Int32} {mt : am_M1} {g : Nat → Nat → Int32} {gl : Nat → Nat → Int64} {gd : Nat → Nat → UInt64} {st : List Value} : am_heap L xs mt .daload (.int (Int32.ofInt 0) :: .ref 44 :: st) (az_K, g, gl, gd) false = some (.double (gd 44 0) :: st, (az_K, g, gl, gd), false, 0, 0) := rfl
/-- an int of the script -/
theorem aw_xs {L : Nat} {xs : Nat → Int32} {mt : am_M1} {h : am_H} {z : Int} {st : List Value} (hz : 0 ≤ z ∧ z < L ∧ L < 2147483648) : am_heap L xs mt .iaload (.int (Int32.ofInt z) :: .retAddr 0 :: st) h false = some (az_e (az_i (xs z.toNat).toInt) :: st, h, false, 0, 0) := by
  obtain ⟨e1, e2⟩ := az_idx (n := L) ⟨hz.1, hz.2.1, hz.2.2⟩
  show (if 0 = 0 ∧ am_in (Int32.ofInt z) L = true then some (Value.int (xs (Int32.ofInt z).toNatClampNeg) :: st, h, false, 0, 0) else none) = _
  rw [if_pos ⟨rfl, e2⟩, e1]
  show _ = some (Value.int (Int32.ofInt (xs z.toNat).toInt) :: st, h, false, 0, 0)
  rw [Int32.ofInt_toInt]
