/-! THE CONSTRUCTORS, BEGUN, THE LAW FROM ITS FIRST ROW; written by program (wip/p47tools/l75.py) -/
def ar_R (L : Nat) (xs : Nat → Int32) (tx : Nat → Option String) (d : Nat) (mt : am_M1) (pc : Nat) (lv : am_L) (st : List Value) (h : am_H) (ph : Bool) (Q : am_R → Prop) : Prop := ∃ n r, am_run L xs n tx d mt pc lv st h ph = some r ∧ Q r
section ARR
variable {L : Nat} {xs : Nat → Int32} {tx : Nat → Option String} {d : Nat} {mt : am_M1} {pc : Nat} {lv : am_L} {st : List Value} {h : am_H} {ph : Bool} {Q : am_R → Prop}
theorem ar_s {ins : Instr} {len : Nat} (pc2 : Nat) (lv2 : am_L) (st2 : List Value) (hf : am_find pc (am_c mt) = some (ins, len)) (h1 : am_simple ins len pc lv st = some (pc2, lv2, st2)) (H : ar_R L xs tx d mt pc2 lv2 st2 h ph Q) : ar_R L xs tx d mt pc lv st h ph Q := by
  obtain ⟨n, r, h2, h3⟩ := H
  refine ⟨n + 1, r, ?_, h3⟩
  conv => lhs; unfold am_run
  rw [hf]
  dsimp only
  rw [h1]
  exact h2
theorem ar_h {ins : Instr} {len c k : Nat} (pc2 : Nat) (st2 : List Value) (h2 : am_H) (ph2 : Bool) (hf : am_find pc (am_c mt) = some (ins, len)) (h1 : am_simple ins len pc lv st = none) (hh : am_heap L xs tx mt ins st h ph = some (st2, h2, ph2, c, k)) (hp : pc + len = pc2) (H : ar_R L xs tx d mt pc2 lv st2 h2 ph2 (fun r => Q (am_add c k r))) : ar_R L xs tx d mt pc lv st h ph Q := by
  obtain ⟨n, r, h3, h4⟩ := H
  refine ⟨n + 1, am_add c k r, ?_, h4⟩
  conv => lhs; unfold am_run
  rw [hf]
  dsimp only
  rw [h1]
  dsimp only
  rw [hh]
  dsimp only
  rw [hp, h3]
  rfl
theorem ar_c {ins : Instr} {len c k : Nat} {m2 : am_M1} {as rest : List Value} {v : Option Value} (pc2 : Nat) (h2 : am_H) (ph2 : Bool) (hf : am_find pc (am_c mt) = some (ins, len)) (h1 : am_simple ins len pc lv st = none) (hh : am_heap L xs tx mt ins st h ph = none) (hc : am_call mt ins st h = some (m2, as, rest)) (hp : pc + len = pc2) (hr : ar_R L xs tx d m2 0 (am_ini (am_mL m2) as) [] h ph (fun r => r = (.inl v, h2, ph2, c, k))) (H : ar_R L xs tx (d + 1) mt pc2 lv (v.toList ++ rest) h2 ph2 (fun r => Q (am_add c k r))) : ar_R L xs tx (d + 1) mt pc lv st h ph Q := by
  obtain ⟨n1, r1, e1, e2⟩ := hr
  subst e2
  obtain ⟨n2, r, h3, h4⟩ := H
  refine ⟨max n1 n2 + 1, am_add c k r, ?_, h4⟩
  have h1' := am_mono n1 (max n1 n2) _ _ _ _ _ _ _ _ _ _ (Nat.le_max_left _ _) (Nat.le_refl _) e1
  have h3' := am_mono n2 (max n1 n2) _ _ _ _ _ _ _ _ _ _ (Nat.le_max_right _ _) (Nat.le_refl _) h3
  conv => lhs; unfold am_run
  rw [hf]
  dsimp only
  rw [h1]
  dsimp only
  rw [hh]
  dsimp only
  rw [hc]
  dsimp only
  rw [h1']
  dsimp only
  rw [hp, h3']
  rfl
theorem ar_e {ins : Instr} {len : Nat} {v : Option Value} (hf : am_find pc (am_c mt) = some (ins, len)) (h1 : am_simple ins len pc lv st = none) (hh : am_heap L xs tx mt ins st h ph = none) (hc : am_call mt ins st h = none) (hr : am_ret (am_rt mt) ins st = some v) (hQ : Q (.inl v, h, ph, 0, 0)) : ar_R L xs tx d mt pc lv st h ph Q := by
  refine ⟨1, _, ?_, hQ⟩
  conv => lhs; unfold am_run
  rw [hf]
  dsimp only
  rw [h1]
  dsimp only
  rw [hh]
  dsimp only
  rw [hc]
  dsimp only
  rw [hr]
end ARR
theorem ar_z {s : az_S} {k : Nat} (hz : ∀ j, s k j = 0) : am_ur (az_G s) k (fun _ => 0) = az_G s := by
  funext a b
  unfold am_ur az_G
  by_cases q : a = k
  · rw [if_pos q, q, hz b]; rfl
  · rw [if_neg q]
theorem ar_p0 {s : az_S} {i j : Nat} (hz : s i j = 0) : am_up (az_G s) i j (Int32.ofInt 0) = az_G s := by
  funext a b
  unfold am_up az_G
  by_cases q : a = i
  · rw [if_pos q]
    by_cases q2 : b = j
    · rw [if_pos q2, q, q2, hz]
    · rw [if_neg q2]
  · rw [if_neg q]
section ARH
variable {L : Nat} {xs : Nat → Int32} {tx : Nat → Option String} {mt : am_M1} {st : List Value} {K : List am_E} {s : az_S} {gl : Nat → Nat → Int64} {gd : Nat → Nat → UInt64} {ix : Nat}
theorem ar_hn {q : Nat × Nat × Nat × Nat} {i k : Nat} {K2 : List am_E} (hf : am_find ix (am_nT (am_own mt)) = some q) (hl : K.length = i) (hz : ∀ j, s i j = 0) (hK : K ++ [.inr (q.1, am_df q.1)] = K2) (hN : am_N q.1 = k) : am_heap L xs tx mt (.new ix) st (K, az_G s, gl, gd) false = some (.ref i :: st, (K2, az_G s, gl, gd), false, 1, k) := by
  subst hl hK hN
  unfold am_heap
  dsimp only
  rw [hf]
  dsimp only
  rw [ar_z hz]
theorem ar_hi {n i : Nat} {K2 : List am_E} (hn : n ≤ 60000000) (hl : K.length = i) (hz : ∀ j, s i j = 0) (hK : K ++ [.inl (0, n)] = K2) : am_heap L xs tx mt (.newarray .int) (.int (Int32.ofInt ((n : Nat) : Int)) :: st) (K, az_G s, gl, gd) false = some (.ref i :: st, (K2, az_G s, gl, gd), false, 1, n) := by
  subst hl hK
  obtain ⟨e1, e2⟩ := az_idx (z := ((n : Nat) : Int)) (n := n + 1) ⟨by omega, by omega, by omega⟩
  have e3 : ¬ Int32.ofInt ((n : Nat) : Int) < 0 := by
    show ¬ Int32.ofInt ((n : Nat) : Int) < Int32.ofInt 0
    rw [az_lt ⟨by omega, by omega⟩ ⟨by decide, by decide⟩]
    omega
  unfold am_heap
  dsimp only
  rw [if_pos ⟨e3, by rw [e1]; exact hn⟩, e1, ar_z hz]
  rfl
theorem ar_hr {q : Nat × Nat × Nat} {i a cj : Nat} {fs : List (Option Value)} {w : Value} {ph : Bool} {K2 : List am_E} (hf : am_find ix (am_fT (am_own mt)) = some q) (hk : K[i]? = some (.inr (cj, fs))) (hc : cj = q.1 ∧ (am_nar (am_tX q.1 q.2.1) (.ref a) = true ∧ ((am_TX q.1 q.2.1).2.2.2 = false ∨ ((am_y mt).name = "<init>" ∧ am_own mt = q.1)))) (hw : fs[q.2.1]? = some (some w)) (hK : K.set i (.inr (cj, fs.set q.2.1 (some (.ref a)))) = K2) : am_heap L xs tx mt (.putfield ix) (.ref a :: .ref i :: st) (K, az_G s, gl, gd) ph = some (st, (K2, az_G s, gl, gd), ph, 0, 0) := by
  subst hK
  unfold am_heap
  dsimp only
  rw [hf]
  dsimp only
  rw [hk]
  dsimp only
  rw [if_pos hc, hw]
theorem ar_hu {q : Nat × Nat × Nat} {i cj : Nat} {z : Int} {fs : List (Option Value)} {s2 : az_S} {ph : Bool} (hf : am_find ix (am_fT (am_own mt)) = some q) (hk : K[i]? = some (.inr (cj, fs))) (hc : cj = q.1 ∧ (am_nar (am_tX q.1 q.2.1) (.int (Int32.ofInt z)) = true ∧ ((am_TX q.1 q.2.1).2.2.2 = false ∨ ((am_y mt).name = "<init>" ∧ am_own mt = q.1)))) (hw : fs[q.2.1]? = some none) (he : am_up (az_G s) i q.2.1 (Int32.ofInt z) = az_G s2) : am_heap L xs tx mt (.putfield ix) (.int (Int32.ofInt z) :: .ref i :: st) (K, az_G s, gl, gd) ph = some (st, (K, az_G s2, gl, gd), ph, 0, 0) := by
  unfold am_heap
  dsimp only
  rw [hf]
  dsimp only
  rw [hk]
  dsimp only
  rw [if_pos hc, hw]
  dsimp only
  rw [he]
end ARH
def ks_0 : List am_E := []
def sa_0 : az_S := fun _ _ => 0
def ks_1 : List am_E := [.inr (9, [some .null, some .null, some .null, some .null, some .null, none, some .null, some .null, some .null, some .null, none])]
def ks_2 : List am_E := [.inr (9, [some .null, some .null, some .null, some .null, some .null, none, some .null, some .null, some .null, some .null, none]), .inr (8, [some .null])]
def ks_3 : List am_E := [.inr (9, [some .null, some .null, some .null, some .null, some .null, none, some .null, some .null, some .null, some .null, none]), .inr (8, [some .null]), .inr (5, [some .null])]
def ks_4 : List am_E := [.inr (9, [some .null, some .null, some .null, some .null, some .null, none, some .null, some .null, some .null, some .null, none]), .inr (8, [some .null]), .inr (5, [some .null]), .inl (0, 184)]
def ks_5 : List am_E := [.inr (9, [some .null, some .null, some .null, some .null, some .null, none, some .null, some .null, some .null, some .null, none]), .inr (8, [some .null]), .inr (5, [some (.ref 3)]), .inl (0, 184)]
def ks_6 : List am_E := [.inr (9, [some .null, some .null, some .null, some .null, some .null, none, some .null, some .null, some .null, some .null, none]), .inr (8, [some (.ref 2)]), .inr (5, [some (.ref 3)]), .inl (0, 184)]
def ks_7 : List am_E := [.inr (9, [some (.ref 1), some .null, some .null, some .null, some .null, none, some .null, some .null, some .null, some .null, none]), .inr (8, [some (.ref 2)]), .inr (5, [some (.ref 3)]), .inl (0, 184)]
def ks_8 : List am_E := [.inr (9, [some (.ref 1), some .null, some .null, some .null, some .null, none, some .null, some .null, some .null, some .null, none]), .inr (8, [some (.ref 2)]), .inr (5, [some (.ref 3)]), .inl (0, 184), .inr (0, [some .null, some .null])]
def ks_9 : List am_E := [.inr (9, [some (.ref 1), some .null, some .null, some .null, some .null, none, some .null, some .null, some .null, some .null, none]), .inr (8, [some (.ref 2)]), .inr (5, [some (.ref 3)]), .inl (0, 184), .inr (0, [some .null, some .null]), .inr (6, [none, none, none, none])]
def ks_10 : List am_E := [.inr (9, [some (.ref 1), some .null, some .null, some .null, some .null, none, some .null, some .null, some .null, some .null, none]), .inr (8, [some (.ref 2)]), .inr (5, [some (.ref 3)]), .inl (0, 184), .inr (0, [some .null, some (.ref 5)]), .inr (6, [none, none, none, none])]
def ks_11 : List am_E := [.inr (9, [some (.ref 1), some .null, some .null, some .null, some .null, none, some .null, some .null, some .null, some .null, none]), .inr (8, [some (.ref 2)]), .inr (5, [some (.ref 3)]), .inl (0, 184), .inr (0, [some (.ref 1), some (.ref 5)]), .inr (6, [none, none, none, none])]
def ks_12 : List am_E := [.inr (9, [some (.ref 1), some (.ref 4), some .null, some .null, some .null, none, some .null, some .null, some .null, some .null, none]), .inr (8, [some (.ref 2)]), .inr (5, [some (.ref 3)]), .inl (0, 184), .inr (0, [some (.ref 1), some (.ref 5)]), .inr (6, [none, none, none, none])]
def ks_13 : List am_E := [.inr (9, [some (.ref 1), some (.ref 4), some .null, some .null, some .null, none, some .null, some .null, some .null, some .null, none]), .inr (8, [some (.ref 2)]), .inr (5, [some (.ref 3)]), .inl (0, 184), .inr (0, [some (.ref 1), some (.ref 5)]), .inr (6, [none, none, none, none]), .inr (7, [some .null, some .null, some .null, some .null, some .null, some .null])]
def ks_14 : List am_E := [.inr (9, [some (.ref 1), some (.ref 4), some .null, some .null, some .null, none, some .null, some .null, some .null, some .null, none]), .inr (8, [some (.ref 2)]), .inr (5, [some (.ref 3)]), .inl (0, 184), .inr (0, [some (.ref 1), some (.ref 5)]), .inr (6, [none, none, none, none]), .inr (7, [some .null, some .null, some .null, some .null, some .null, some .null]), .inr (5, [some .null])]
def ks_15 : List am_E := [.inr (9, [some (.ref 1), some (.ref 4), some .null, some .null, some .null, none, some .null, some .null, some .null, some .null, none]), .inr (8, [some (.ref 2)]), .inr (5, [some (.ref 3)]), .inl (0, 184), .inr (0, [some (.ref 1), some (.ref 5)]), .inr (6, [none, none, none, none]), .inr (7, [some .null, some .null, some .null, some .null, some .null, some .null]), .inr (5, [some .null]), .inl (0, 10)]
def ks_16 : List am_E := [.inr (9, [some (.ref 1), some (.ref 4), some .null, some .null, some .null, none, some .null, some .null, some .null, some .null, none]), .inr (8, [some (.ref 2)]), .inr (5, [some (.ref 3)]), .inl (0, 184), .inr (0, [some (.ref 1), some (.ref 5)]), .inr (6, [none, none, none, none]), .inr (7, [some .null, some .null, some .null, some .null, some .null, some .null]), .inr (5, [some (.ref 8)]), .inl (0, 10)]
def ks_17 : List am_E := [.inr (9, [some (.ref 1), some (.ref 4), some .null, some .null, some .null, none, some .null, some .null, some .null, some .null, none]), .inr (8, [some (.ref 2)]), .inr (5, [some (.ref 3)]), .inl (0, 184), .inr (0, [some (.ref 1), some (.ref 5)]), .inr (6, [none, none, none, none]), .inr (7, [some .null, some (.ref 7), some .null, some .null, some .null, some .null]), .inr (5, [some (.ref 8)]), .inl (0, 10)]
def ks_18 : List am_E := [.inr (9, [some (.ref 1), some (.ref 4), some .null, some .null, some .null, none, some .null, some .null, some .null, some .null, none]), .inr (8, [some (.ref 2)]), .inr (5, [some (.ref 3)]), .inl (0, 184), .inr (0, [some (.ref 1), some (.ref 5)]), .inr (6, [none, none, none, none]), .inr (7, [some .null, some (.ref 7), some .null, some .null, some .null, some .null]), .inr (5, [some (.ref 8)]), .inl (0, 10), .inr (5, [some .null])]
def ks_19 : List am_E := [.inr (9, [some (.ref 1), some (.ref 4), some .null, some .null, some .null, none, some .null, some .null, some .null, some .null, none]), .inr (8, [some (.ref 2)]), .inr (5, [some (.ref 3)]), .inl (0, 184), .inr (0, [some (.ref 1), some (.ref 5)]), .inr (6, [none, none, none, none]), .inr (7, [some .null, some (.ref 7), some .null, some .null, some .null, some .null]), .inr (5, [some (.ref 8)]), .inl (0, 10), .inr (5, [some .null]), .inl (0, 6)]
def ks_20 : List am_E := [.inr (9, [some (.ref 1), some (.ref 4), some .null, some .null, some .null, none, some .null, some .null, some .null, some .null, none]), .inr (8, [some (.ref 2)]), .inr (5, [some (.ref 3)]), .inl (0, 184), .inr (0, [some (.ref 1), some (.ref 5)]), .inr (6, [none, none, none, none]), .inr (7, [some .null, some (.ref 7), some .null, some .null, some .null, some .null]), .inr (5, [some (.ref 8)]), .inl (0, 10), .inr (5, [some (.ref 10)]), .inl (0, 6)]
def ks_21 : List am_E := [.inr (9, [some (.ref 1), some (.ref 4), some .null, some .null, some .null, none, some .null, some .null, some .null, some .null, none]), .inr (8, [some (.ref 2)]), .inr (5, [some (.ref 3)]), .inl (0, 184), .inr (0, [some (.ref 1), some (.ref 5)]), .inr (6, [none, none, none, none]), .inr (7, [some .null, some (.ref 7), some (.ref 9), some .null, some .null, some .null]), .inr (5, [some (.ref 8)]), .inl (0, 10), .inr (5, [some (.ref 10)]), .inl (0, 6)]
def ks_22 : List am_E := [.inr (9, [some (.ref 1), some (.ref 4), some .null, some .null, some .null, none, some .null, some .null, some .null, some .null, none]), .inr (8, [some (.ref 2)]), .inr (5, [some (.ref 3)]), .inl (0, 184), .inr (0, [some (.ref 1), some (.ref 5)]), .inr (6, [none, none, none, none]), .inr (7, [some .null, some (.ref 7), some (.ref 9), some .null, some .null, some .null]), .inr (5, [some (.ref 8)]), .inl (0, 10), .inr (5, [some (.ref 10)]), .inl (0, 6), .inr (5, [some .null])]
def ks_23 : List am_E := [.inr (9, [some (.ref 1), some (.ref 4), some .null, some .null, some .null, none, some .null, some .null, some .null, some .null, none]), .inr (8, [some (.ref 2)]), .inr (5, [some (.ref 3)]), .inl (0, 184), .inr (0, [some (.ref 1), some (.ref 5)]), .inr (6, [none, none, none, none]), .inr (7, [some .null, some (.ref 7), some (.ref 9), some .null, some .null, some .null]), .inr (5, [some (.ref 8)]), .inl (0, 10), .inr (5, [some (.ref 10)]), .inl (0, 6), .inr (5, [some .null]), .inl (0, 6)]
def ks_24 : List am_E := [.inr (9, [some (.ref 1), some (.ref 4), some .null, some .null, some .null, none, some .null, some .null, some .null, some .null, none]), .inr (8, [some (.ref 2)]), .inr (5, [some (.ref 3)]), .inl (0, 184), .inr (0, [some (.ref 1), some (.ref 5)]), .inr (6, [none, none, none, none]), .inr (7, [some .null, some (.ref 7), some (.ref 9), some .null, some .null, some .null]), .inr (5, [some (.ref 8)]), .inl (0, 10), .inr (5, [some (.ref 10)]), .inl (0, 6), .inr (5, [some (.ref 12)]), .inl (0, 6)]
def ks_25 : List am_E := [.inr (9, [some (.ref 1), some (.ref 4), some .null, some .null, some .null, none, some .null, some .null, some .null, some .null, none]), .inr (8, [some (.ref 2)]), .inr (5, [some (.ref 3)]), .inl (0, 184), .inr (0, [some (.ref 1), some (.ref 5)]), .inr (6, [none, none, none, none]), .inr (7, [some .null, some (.ref 7), some (.ref 9), some (.ref 11), some .null, some .null]), .inr (5, [some (.ref 8)]), .inl (0, 10), .inr (5, [some (.ref 10)]), .inl (0, 6), .inr (5, [some (.ref 12)]), .inl (0, 6)]
def ks_26 : List am_E := [.inr (9, [some (.ref 1), some (.ref 4), some .null, some .null, some .null, none, some .null, some .null, some .null, some .null, none]), .inr (8, [some (.ref 2)]), .inr (5, [some (.ref 3)]), .inl (0, 184), .inr (0, [some (.ref 1), some (.ref 5)]), .inr (6, [none, none, none, none]), .inr (7, [some .null, some (.ref 7), some (.ref 9), some (.ref 11), some .null, some .null]), .inr (5, [some (.ref 8)]), .inl (0, 10), .inr (5, [some (.ref 10)]), .inl (0, 6), .inr (5, [some (.ref 12)]), .inl (0, 6), .inr (5, [some .null])]
def ks_27 : List am_E := [.inr (9, [some (.ref 1), some (.ref 4), some .null, some .null, some .null, none, some .null, some .null, some .null, some .null, none]), .inr (8, [some (.ref 2)]), .inr (5, [some (.ref 3)]), .inl (0, 184), .inr (0, [some (.ref 1), some (.ref 5)]), .inr (6, [none, none, none, none]), .inr (7, [some .null, some (.ref 7), some (.ref 9), some (.ref 11), some .null, some .null]), .inr (5, [some (.ref 8)]), .inl (0, 10), .inr (5, [some (.ref 10)]), .inl (0, 6), .inr (5, [some (.ref 12)]), .inl (0, 6), .inr (5, [some .null]), .inl (0, 6)]
def ks_28 : List am_E := [.inr (9, [some (.ref 1), some (.ref 4), some .null, some .null, some .null, none, some .null, some .null, some .null, some .null, none]), .inr (8, [some (.ref 2)]), .inr (5, [some (.ref 3)]), .inl (0, 184), .inr (0, [some (.ref 1), some (.ref 5)]), .inr (6, [none, none, none, none]), .inr (7, [some .null, some (.ref 7), some (.ref 9), some (.ref 11), some .null, some .null]), .inr (5, [some (.ref 8)]), .inl (0, 10), .inr (5, [some (.ref 10)]), .inl (0, 6), .inr (5, [some (.ref 12)]), .inl (0, 6), .inr (5, [some (.ref 14)]), .inl (0, 6)]
def ks_29 : List am_E := [.inr (9, [some (.ref 1), some (.ref 4), some .null, some .null, some .null, none, some .null, some .null, some .null, some .null, none]), .inr (8, [some (.ref 2)]), .inr (5, [some (.ref 3)]), .inl (0, 184), .inr (0, [some (.ref 1), some (.ref 5)]), .inr (6, [none, none, none, none]), .inr (7, [some .null, some (.ref 7), some (.ref 9), some (.ref 11), some (.ref 13), some .null]), .inr (5, [some (.ref 8)]), .inl (0, 10), .inr (5, [some (.ref 10)]), .inl (0, 6), .inr (5, [some (.ref 12)]), .inl (0, 6), .inr (5, [some (.ref 14)]), .inl (0, 6)]
def ks_30 : List am_E := [.inr (9, [some (.ref 1), some (.ref 4), some .null, some .null, some .null, none, some .null, some .null, some .null, some .null, none]), .inr (8, [some (.ref 2)]), .inr (5, [some (.ref 3)]), .inl (0, 184), .inr (0, [some (.ref 1), some (.ref 5)]), .inr (6, [none, none, none, none]), .inr (7, [some .null, some (.ref 7), some (.ref 9), some (.ref 11), some (.ref 13), some .null]), .inr (5, [some (.ref 8)]), .inl (0, 10), .inr (5, [some (.ref 10)]), .inl (0, 6), .inr (5, [some (.ref 12)]), .inl (0, 6), .inr (5, [some (.ref 14)]), .inl (0, 6), .inr (5, [some .null])]
def ks_31 : List am_E := [.inr (9, [some (.ref 1), some (.ref 4), some .null, some .null, some .null, none, some .null, some .null, some .null, some .null, none]), .inr (8, [some (.ref 2)]), .inr (5, [some (.ref 3)]), .inl (0, 184), .inr (0, [some (.ref 1), some (.ref 5)]), .inr (6, [none, none, none, none]), .inr (7, [some .null, some (.ref 7), some (.ref 9), some (.ref 11), some (.ref 13), some .null]), .inr (5, [some (.ref 8)]), .inl (0, 10), .inr (5, [some (.ref 10)]), .inl (0, 6), .inr (5, [some (.ref 12)]), .inl (0, 6), .inr (5, [some (.ref 14)]), .inl (0, 6), .inr (5, [some .null]), .inl (0, 6)]
def ks_32 : List am_E := [.inr (9, [some (.ref 1), some (.ref 4), some .null, some .null, some .null, none, some .null, some .null, some .null, some .null, none]), .inr (8, [some (.ref 2)]), .inr (5, [some (.ref 3)]), .inl (0, 184), .inr (0, [some (.ref 1), some (.ref 5)]), .inr (6, [none, none, none, none]), .inr (7, [some .null, some (.ref 7), some (.ref 9), some (.ref 11), some (.ref 13), some .null]), .inr (5, [some (.ref 8)]), .inl (0, 10), .inr (5, [some (.ref 10)]), .inl (0, 6), .inr (5, [some (.ref 12)]), .inl (0, 6), .inr (5, [some (.ref 14)]), .inl (0, 6), .inr (5, [some (.ref 16)]), .inl (0, 6)]
def ks_33 : List am_E := [.inr (9, [some (.ref 1), some (.ref 4), some .null, some .null, some .null, none, some .null, some .null, some .null, some .null, none]), .inr (8, [some (.ref 2)]), .inr (5, [some (.ref 3)]), .inl (0, 184), .inr (0, [some (.ref 1), some (.ref 5)]), .inr (6, [none, none, none, none]), .inr (7, [some .null, some (.ref 7), some (.ref 9), some (.ref 11), some (.ref 13), some (.ref 15)]), .inr (5, [some (.ref 8)]), .inl (0, 10), .inr (5, [some (.ref 10)]), .inl (0, 6), .inr (5, [some (.ref 12)]), .inl (0, 6), .inr (5, [some (.ref 14)]), .inl (0, 6), .inr (5, [some (.ref 16)]), .inl (0, 6)]
def ks_34 : List am_E := [.inr (9, [some (.ref 1), some (.ref 4), some .null, some .null, some .null, none, some .null, some .null, some .null, some .null, none]), .inr (8, [some (.ref 2)]), .inr (5, [some (.ref 3)]), .inl (0, 184), .inr (0, [some (.ref 1), some (.ref 5)]), .inr (6, [none, none, none, none]), .inr (7, [some (.ref 1), some (.ref 7), some (.ref 9), some (.ref 11), some (.ref 13), some (.ref 15)]), .inr (5, [some (.ref 8)]), .inl (0, 10), .inr (5, [some (.ref 10)]), .inl (0, 6), .inr (5, [some (.ref 12)]), .inl (0, 6), .inr (5, [some (.ref 14)]), .inl (0, 6), .inr (5, [some (.ref 16)]), .inl (0, 6)]
def ks_35 : List am_E := [.inr (9, [some (.ref 1), some (.ref 4), some (.ref 6), some .null, some .null, none, some .null, some .null, some .null, some .null, none]), .inr (8, [some (.ref 2)]), .inr (5, [some (.ref 3)]), .inl (0, 184), .inr (0, [some (.ref 1), some (.ref 5)]), .inr (6, [none, none, none, none]), .inr (7, [some (.ref 1), some (.ref 7), some (.ref 9), some (.ref 11), some (.ref 13), some (.ref 15)]), .inr (5, [some (.ref 8)]), .inl (0, 10), .inr (5, [some (.ref 10)]), .inl (0, 6), .inr (5, [some (.ref 12)]), .inl (0, 6), .inr (5, [some (.ref 14)]), .inl (0, 6), .inr (5, [some (.ref 16)]), .inl (0, 6)]
def ks_36 : List am_E := [.inr (9, [some (.ref 1), some (.ref 4), some (.ref 6), some .null, some .null, none, some .null, some .null, some .null, some .null, none]), .inr (8, [some (.ref 2)]), .inr (5, [some (.ref 3)]), .inl (0, 184), .inr (0, [some (.ref 1), some (.ref 5)]), .inr (6, [none, none, none, none]), .inr (7, [some (.ref 1), some (.ref 7), some (.ref 9), some (.ref 11), some (.ref 13), some (.ref 15)]), .inr (5, [some (.ref 8)]), .inl (0, 10), .inr (5, [some (.ref 10)]), .inl (0, 6), .inr (5, [some (.ref 12)]), .inl (0, 6), .inr (5, [some (.ref 14)]), .inl (0, 6), .inr (5, [some (.ref 16)]), .inl (0, 6), .inr (2, [some .null, none, none])]
def ks_37 : List am_E := [.inr (9, [some (.ref 1), some (.ref 4), some (.ref 6), some .null, some .null, none, some .null, some .null, some .null, some .null, none]), .inr (8, [some (.ref 2)]), .inr (5, [some (.ref 3)]), .inl (0, 184), .inr (0, [some (.ref 1), some (.ref 5)]), .inr (6, [none, none, none, none]), .inr (7, [some (.ref 1), some (.ref 7), some (.ref 9), some (.ref 11), some (.ref 13), some (.ref 15)]), .inr (5, [some (.ref 8)]), .inl (0, 10), .inr (5, [some (.ref 10)]), .inl (0, 6), .inr (5, [some (.ref 12)]), .inl (0, 6), .inr (5, [some (.ref 14)]), .inl (0, 6), .inr (5, [some (.ref 16)]), .inl (0, 6), .inr (2, [some .null, none, none]), .inr (5, [some .null])]
def ks_38 : List am_E := [.inr (9, [some (.ref 1), some (.ref 4), some (.ref 6), some .null, some .null, none, some .null, some .null, some .null, some .null, none]), .inr (8, [some (.ref 2)]), .inr (5, [some (.ref 3)]), .inl (0, 184), .inr (0, [some (.ref 1), some (.ref 5)]), .inr (6, [none, none, none, none]), .inr (7, [some (.ref 1), some (.ref 7), some (.ref 9), some (.ref 11), some (.ref 13), some (.ref 15)]), .inr (5, [some (.ref 8)]), .inl (0, 10), .inr (5, [some (.ref 10)]), .inl (0, 6), .inr (5, [some (.ref 12)]), .inl (0, 6), .inr (5, [some (.ref 14)]), .inl (0, 6), .inr (5, [some (.ref 16)]), .inl (0, 6), .inr (2, [some .null, none, none]), .inr (5, [some .null]), .inl (0, 1656)]
def ks_39 : List am_E := [.inr (9, [some (.ref 1), some (.ref 4), some (.ref 6), some .null, some .null, none, some .null, some .null, some .null, some .null, none]), .inr (8, [some (.ref 2)]), .inr (5, [some (.ref 3)]), .inl (0, 184), .inr (0, [some (.ref 1), some (.ref 5)]), .inr (6, [none, none, none, none]), .inr (7, [some (.ref 1), some (.ref 7), some (.ref 9), some (.ref 11), some (.ref 13), some (.ref 15)]), .inr (5, [some (.ref 8)]), .inl (0, 10), .inr (5, [some (.ref 10)]), .inl (0, 6), .inr (5, [some (.ref 12)]), .inl (0, 6), .inr (5, [some (.ref 14)]), .inl (0, 6), .inr (5, [some (.ref 16)]), .inl (0, 6), .inr (2, [some .null, none, none]), .inr (5, [some (.ref 19)]), .inl (0, 1656)]
def ks_40 : List am_E := [.inr (9, [some (.ref 1), some (.ref 4), some (.ref 6), some .null, some .null, none, some .null, some .null, some .null, some .null, none]), .inr (8, [some (.ref 2)]), .inr (5, [some (.ref 3)]), .inl (0, 184), .inr (0, [some (.ref 1), some (.ref 5)]), .inr (6, [none, none, none, none]), .inr (7, [some (.ref 1), some (.ref 7), some (.ref 9), some (.ref 11), some (.ref 13), some (.ref 15)]), .inr (5, [some (.ref 8)]), .inl (0, 10), .inr (5, [some (.ref 10)]), .inl (0, 6), .inr (5, [some (.ref 12)]), .inl (0, 6), .inr (5, [some (.ref 14)]), .inl (0, 6), .inr (5, [some (.ref 16)]), .inl (0, 6), .inr (2, [some (.ref 18), none, none]), .inr (5, [some (.ref 19)]), .inl (0, 1656)]
def ks_41 : List am_E := [.inr (9, [some (.ref 1), some (.ref 4), some (.ref 6), some (.ref 17), some .null, none, some .null, some .null, some .null, some .null, none]), .inr (8, [some (.ref 2)]), .inr (5, [some (.ref 3)]), .inl (0, 184), .inr (0, [some (.ref 1), some (.ref 5)]), .inr (6, [none, none, none, none]), .inr (7, [some (.ref 1), some (.ref 7), some (.ref 9), some (.ref 11), some (.ref 13), some (.ref 15)]), .inr (5, [some (.ref 8)]), .inl (0, 10), .inr (5, [some (.ref 10)]), .inl (0, 6), .inr (5, [some (.ref 12)]), .inl (0, 6), .inr (5, [some (.ref 14)]), .inl (0, 6), .inr (5, [some (.ref 16)]), .inl (0, 6), .inr (2, [some (.ref 18), none, none]), .inr (5, [some (.ref 19)]), .inl (0, 1656)]
def ks_42 : List am_E := [.inr (9, [some (.ref 1), some (.ref 4), some (.ref 6), some (.ref 17), some .null, none, some .null, some .null, some .null, some .null, none]), .inr (8, [some (.ref 2)]), .inr (5, [some (.ref 3)]), .inl (0, 184), .inr (0, [some (.ref 1), some (.ref 5)]), .inr (6, [none, none, none, none]), .inr (7, [some (.ref 1), some (.ref 7), some (.ref 9), some (.ref 11), some (.ref 13), some (.ref 15)]), .inr (5, [some (.ref 8)]), .inl (0, 10), .inr (5, [some (.ref 10)]), .inl (0, 6), .inr (5, [some (.ref 12)]), .inl (0, 6), .inr (5, [some (.ref 14)]), .inl (0, 6), .inr (5, [some (.ref 16)]), .inl (0, 6), .inr (2, [some (.ref 18), none, none]), .inr (5, [some (.ref 19)]), .inl (0, 1656), .inr (5, [some .null])]
def ks_43 : List am_E := [.inr (9, [some (.ref 1), some (.ref 4), some (.ref 6), some (.ref 17), some .null, none, some .null, some .null, some .null, some .null, none]), .inr (8, [some (.ref 2)]), .inr (5, [some (.ref 3)]), .inl (0, 184), .inr (0, [some (.ref 1), some (.ref 5)]), .inr (6, [none, none, none, none]), .inr (7, [some (.ref 1), some (.ref 7), some (.ref 9), some (.ref 11), some (.ref 13), some (.ref 15)]), .inr (5, [some (.ref 8)]), .inl (0, 10), .inr (5, [some (.ref 10)]), .inl (0, 6), .inr (5, [some (.ref 12)]), .inl (0, 6), .inr (5, [some (.ref 14)]), .inl (0, 6), .inr (5, [some (.ref 16)]), .inl (0, 6), .inr (2, [some (.ref 18), none, none]), .inr (5, [some (.ref 19)]), .inl (0, 1656), .inr (5, [some .null]), .inl (0, 184)]
def ks_44 : List am_E := [.inr (9, [some (.ref 1), some (.ref 4), some (.ref 6), some (.ref 17), some .null, none, some .null, some .null, some .null, some .null, none]), .inr (8, [some (.ref 2)]), .inr (5, [some (.ref 3)]), .inl (0, 184), .inr (0, [some (.ref 1), some (.ref 5)]), .inr (6, [none, none, none, none]), .inr (7, [some (.ref 1), some (.ref 7), some (.ref 9), some (.ref 11), some (.ref 13), some (.ref 15)]), .inr (5, [some (.ref 8)]), .inl (0, 10), .inr (5, [some (.ref 10)]), .inl (0, 6), .inr (5, [some (.ref 12)]), .inl (0, 6), .inr (5, [some (.ref 14)]), .inl (0, 6), .inr (5, [some (.ref 16)]), .inl (0, 6), .inr (2, [some (.ref 18), none, none]), .inr (5, [some (.ref 19)]), .inl (0, 1656), .inr (5, [some (.ref 21)]), .inl (0, 184)]
def ks_45 : List am_E := [.inr (9, [some (.ref 1), some (.ref 4), some (.ref 6), some (.ref 17), some (.ref 20), none, some .null, some .null, some .null, some .null, none]), .inr (8, [some (.ref 2)]), .inr (5, [some (.ref 3)]), .inl (0, 184), .inr (0, [some (.ref 1), some (.ref 5)]), .inr (6, [none, none, none, none]), .inr (7, [some (.ref 1), some (.ref 7), some (.ref 9), some (.ref 11), some (.ref 13), some (.ref 15)]), .inr (5, [some (.ref 8)]), .inl (0, 10), .inr (5, [some (.ref 10)]), .inl (0, 6), .inr (5, [some (.ref 12)]), .inl (0, 6), .inr (5, [some (.ref 14)]), .inl (0, 6), .inr (5, [some (.ref 16)]), .inl (0, 6), .inr (2, [some (.ref 18), none, none]), .inr (5, [some (.ref 19)]), .inl (0, 1656), .inr (5, [some (.ref 21)]), .inl (0, 184)]
def ks_46 : List am_E := [.inr (9, [some (.ref 1), some (.ref 4), some (.ref 6), some (.ref 17), some (.ref 20), none, some .null, some .null, some .null, some .null, none]), .inr (8, [some (.ref 2)]), .inr (5, [some (.ref 3)]), .inl (0, 184), .inr (0, [some (.ref 1), some (.ref 5)]), .inr (6, [none, none, none, none]), .inr (7, [some (.ref 1), some (.ref 7), some (.ref 9), some (.ref 11), some (.ref 13), some (.ref 15)]), .inr (5, [some (.ref 8)]), .inl (0, 10), .inr (5, [some (.ref 10)]), .inl (0, 6), .inr (5, [some (.ref 12)]), .inl (0, 6), .inr (5, [some (.ref 14)]), .inl (0, 6), .inr (5, [some (.ref 16)]), .inl (0, 6), .inr (2, [some (.ref 18), none, none]), .inr (5, [some (.ref 19)]), .inl (0, 1656), .inr (5, [some (.ref 21)]), .inl (0, 184), .inr (3, [some .null, none, none])]
def sa_1 : az_S := am_up sa_0 22 1 (60)
def ks_47 : List am_E := [.inr (9, [some (.ref 1), some (.ref 4), some (.ref 6), some (.ref 17), some (.ref 20), none, some .null, some .null, some .null, some .null, none]), .inr (8, [some (.ref 2)]), .inr (5, [some (.ref 3)]), .inl (0, 184), .inr (0, [some (.ref 1), some (.ref 5)]), .inr (6, [none, none, none, none]), .inr (7, [some (.ref 1), some (.ref 7), some (.ref 9), some (.ref 11), some (.ref 13), some (.ref 15)]), .inr (5, [some (.ref 8)]), .inl (0, 10), .inr (5, [some (.ref 10)]), .inl (0, 6), .inr (5, [some (.ref 12)]), .inl (0, 6), .inr (5, [some (.ref 14)]), .inl (0, 6), .inr (5, [some (.ref 16)]), .inl (0, 6), .inr (2, [some (.ref 18), none, none]), .inr (5, [some (.ref 19)]), .inl (0, 1656), .inr (5, [some (.ref 21)]), .inl (0, 184), .inr (3, [some .null, none, none]), .inr (5, [some .null])]
def ks_48 : List am_E := [.inr (9, [some (.ref 1), some (.ref 4), some (.ref 6), some (.ref 17), some (.ref 20), none, some .null, some .null, some .null, some .null, none]), .inr (8, [some (.ref 2)]), .inr (5, [some (.ref 3)]), .inl (0, 184), .inr (0, [some (.ref 1), some (.ref 5)]), .inr (6, [none, none, none, none]), .inr (7, [some (.ref 1), some (.ref 7), some (.ref 9), some (.ref 11), some (.ref 13), some (.ref 15)]), .inr (5, [some (.ref 8)]), .inl (0, 10), .inr (5, [some (.ref 10)]), .inl (0, 6), .inr (5, [some (.ref 12)]), .inl (0, 6), .inr (5, [some (.ref 14)]), .inl (0, 6), .inr (5, [some (.ref 16)]), .inl (0, 6), .inr (2, [some (.ref 18), none, none]), .inr (5, [some (.ref 19)]), .inl (0, 1656), .inr (5, [some (.ref 21)]), .inl (0, 184), .inr (3, [some .null, none, none]), .inr (5, [some .null]), .inl (0, 60)]
def ks_49 : List am_E := [.inr (9, [some (.ref 1), some (.ref 4), some (.ref 6), some (.ref 17), some (.ref 20), none, some .null, some .null, some .null, some .null, none]), .inr (8, [some (.ref 2)]), .inr (5, [some (.ref 3)]), .inl (0, 184), .inr (0, [some (.ref 1), some (.ref 5)]), .inr (6, [none, none, none, none]), .inr (7, [some (.ref 1), some (.ref 7), some (.ref 9), some (.ref 11), some (.ref 13), some (.ref 15)]), .inr (5, [some (.ref 8)]), .inl (0, 10), .inr (5, [some (.ref 10)]), .inl (0, 6), .inr (5, [some (.ref 12)]), .inl (0, 6), .inr (5, [some (.ref 14)]), .inl (0, 6), .inr (5, [some (.ref 16)]), .inl (0, 6), .inr (2, [some (.ref 18), none, none]), .inr (5, [some (.ref 19)]), .inl (0, 1656), .inr (5, [some (.ref 21)]), .inl (0, 184), .inr (3, [some .null, none, none]), .inr (5, [some (.ref 24)]), .inl (0, 60)]
def ks_50 : List am_E := [.inr (9, [some (.ref 1), some (.ref 4), some (.ref 6), some (.ref 17), some (.ref 20), none, some .null, some .null, some .null, some .null, none]), .inr (8, [some (.ref 2)]), .inr (5, [some (.ref 3)]), .inl (0, 184), .inr (0, [some (.ref 1), some (.ref 5)]), .inr (6, [none, none, none, none]), .inr (7, [some (.ref 1), some (.ref 7), some (.ref 9), some (.ref 11), some (.ref 13), some (.ref 15)]), .inr (5, [some (.ref 8)]), .inl (0, 10), .inr (5, [some (.ref 10)]), .inl (0, 6), .inr (5, [some (.ref 12)]), .inl (0, 6), .inr (5, [some (.ref 14)]), .inl (0, 6), .inr (5, [some (.ref 16)]), .inl (0, 6), .inr (2, [some (.ref 18), none, none]), .inr (5, [some (.ref 19)]), .inl (0, 1656), .inr (5, [some (.ref 21)]), .inl (0, 184), .inr (3, [some (.ref 23), none, none]), .inr (5, [some (.ref 24)]), .inl (0, 60)]
def ks_51 : List am_E := [.inr (9, [some (.ref 1), some (.ref 4), some (.ref 6), some (.ref 17), some (.ref 20), none, some (.ref 22), some .null, some .null, some .null, none]), .inr (8, [some (.ref 2)]), .inr (5, [some (.ref 3)]), .inl (0, 184), .inr (0, [some (.ref 1), some (.ref 5)]), .inr (6, [none, none, none, none]), .inr (7, [some (.ref 1), some (.ref 7), some (.ref 9), some (.ref 11), some (.ref 13), some (.ref 15)]), .inr (5, [some (.ref 8)]), .inl (0, 10), .inr (5, [some (.ref 10)]), .inl (0, 6), .inr (5, [some (.ref 12)]), .inl (0, 6), .inr (5, [some (.ref 14)]), .inl (0, 6), .inr (5, [some (.ref 16)]), .inl (0, 6), .inr (2, [some (.ref 18), none, none]), .inr (5, [some (.ref 19)]), .inl (0, 1656), .inr (5, [some (.ref 21)]), .inl (0, 184), .inr (3, [some (.ref 23), none, none]), .inr (5, [some (.ref 24)]), .inl (0, 60)]
def ks_52 : List am_E := [.inr (9, [some (.ref 1), some (.ref 4), some (.ref 6), some (.ref 17), some (.ref 20), none, some (.ref 22), some .null, some .null, some .null, none]), .inr (8, [some (.ref 2)]), .inr (5, [some (.ref 3)]), .inl (0, 184), .inr (0, [some (.ref 1), some (.ref 5)]), .inr (6, [none, none, none, none]), .inr (7, [some (.ref 1), some (.ref 7), some (.ref 9), some (.ref 11), some (.ref 13), some (.ref 15)]), .inr (5, [some (.ref 8)]), .inl (0, 10), .inr (5, [some (.ref 10)]), .inl (0, 6), .inr (5, [some (.ref 12)]), .inl (0, 6), .inr (5, [some (.ref 14)]), .inl (0, 6), .inr (5, [some (.ref 16)]), .inl (0, 6), .inr (2, [some (.ref 18), none, none]), .inr (5, [some (.ref 19)]), .inl (0, 1656), .inr (5, [some (.ref 21)]), .inl (0, 184), .inr (3, [some (.ref 23), none, none]), .inr (5, [some (.ref 24)]), .inl (0, 60), .inr (1, [some .null, some .null, some .null, none, none, none])]
def ks_53 : List am_E := [.inr (9, [some (.ref 1), some (.ref 4), some (.ref 6), some (.ref 17), some (.ref 20), none, some (.ref 22), some .null, some .null, some .null, none]), .inr (8, [some (.ref 2)]), .inr (5, [some (.ref 3)]), .inl (0, 184), .inr (0, [some (.ref 1), some (.ref 5)]), .inr (6, [none, none, none, none]), .inr (7, [some (.ref 1), some (.ref 7), some (.ref 9), some (.ref 11), some (.ref 13), some (.ref 15)]), .inr (5, [some (.ref 8)]), .inl (0, 10), .inr (5, [some (.ref 10)]), .inl (0, 6), .inr (5, [some (.ref 12)]), .inl (0, 6), .inr (5, [some (.ref 14)]), .inl (0, 6), .inr (5, [some (.ref 16)]), .inl (0, 6), .inr (2, [some (.ref 18), none, none]), .inr (5, [some (.ref 19)]), .inl (0, 1656), .inr (5, [some (.ref 21)]), .inl (0, 184), .inr (3, [some (.ref 23), none, none]), .inr (5, [some (.ref 24)]), .inl (0, 60), .inr (1, [some .null, some .null, some .null, none, none, none]), .inr (5, [some .null])]
def ks_54 : List am_E := [.inr (9, [some (.ref 1), some (.ref 4), some (.ref 6), some (.ref 17), some (.ref 20), none, some (.ref 22), some .null, some .null, some .null, none]), .inr (8, [some (.ref 2)]), .inr (5, [some (.ref 3)]), .inl (0, 184), .inr (0, [some (.ref 1), some (.ref 5)]), .inr (6, [none, none, none, none]), .inr (7, [some (.ref 1), some (.ref 7), some (.ref 9), some (.ref 11), some (.ref 13), some (.ref 15)]), .inr (5, [some (.ref 8)]), .inl (0, 10), .inr (5, [some (.ref 10)]), .inl (0, 6), .inr (5, [some (.ref 12)]), .inl (0, 6), .inr (5, [some (.ref 14)]), .inl (0, 6), .inr (5, [some (.ref 16)]), .inl (0, 6), .inr (2, [some (.ref 18), none, none]), .inr (5, [some (.ref 19)]), .inl (0, 1656), .inr (5, [some (.ref 21)]), .inl (0, 184), .inr (3, [some (.ref 23), none, none]), .inr (5, [some (.ref 24)]), .inl (0, 60), .inr (1, [some .null, some .null, some .null, none, none, none]), .inr (5, [some .null]), .inl (0, 11)]
def ks_55 : List am_E := [.inr (9, [some (.ref 1), some (.ref 4), some (.ref 6), some (.ref 17), some (.ref 20), none, some (.ref 22), some .null, some .null, some .null, none]), .inr (8, [some (.ref 2)]), .inr (5, [some (.ref 3)]), .inl (0, 184), .inr (0, [some (.ref 1), some (.ref 5)]), .inr (6, [none, none, none, none]), .inr (7, [some (.ref 1), some (.ref 7), some (.ref 9), some (.ref 11), some (.ref 13), some (.ref 15)]), .inr (5, [some (.ref 8)]), .inl (0, 10), .inr (5, [some (.ref 10)]), .inl (0, 6), .inr (5, [some (.ref 12)]), .inl (0, 6), .inr (5, [some (.ref 14)]), .inl (0, 6), .inr (5, [some (.ref 16)]), .inl (0, 6), .inr (2, [some (.ref 18), none, none]), .inr (5, [some (.ref 19)]), .inl (0, 1656), .inr (5, [some (.ref 21)]), .inl (0, 184), .inr (3, [some (.ref 23), none, none]), .inr (5, [some (.ref 24)]), .inl (0, 60), .inr (1, [some .null, some .null, some .null, none, none, none]), .inr (5, [some (.ref 27)]), .inl (0, 11)]
def ks_56 : List am_E := [.inr (9, [some (.ref 1), some (.ref 4), some (.ref 6), some (.ref 17), some (.ref 20), none, some (.ref 22), some .null, some .null, some .null, none]), .inr (8, [some (.ref 2)]), .inr (5, [some (.ref 3)]), .inl (0, 184), .inr (0, [some (.ref 1), some (.ref 5)]), .inr (6, [none, none, none, none]), .inr (7, [some (.ref 1), some (.ref 7), some (.ref 9), some (.ref 11), some (.ref 13), some (.ref 15)]), .inr (5, [some (.ref 8)]), .inl (0, 10), .inr (5, [some (.ref 10)]), .inl (0, 6), .inr (5, [some (.ref 12)]), .inl (0, 6), .inr (5, [some (.ref 14)]), .inl (0, 6), .inr (5, [some (.ref 16)]), .inl (0, 6), .inr (2, [some (.ref 18), none, none]), .inr (5, [some (.ref 19)]), .inl (0, 1656), .inr (5, [some (.ref 21)]), .inl (0, 184), .inr (3, [some (.ref 23), none, none]), .inr (5, [some (.ref 24)]), .inl (0, 60), .inr (1, [some .null, some (.ref 26), some .null, none, none, none]), .inr (5, [some (.ref 27)]), .inl (0, 11)]
def ks_57 : List am_E := [.inr (9, [some (.ref 1), some (.ref 4), some (.ref 6), some (.ref 17), some (.ref 20), none, some (.ref 22), some .null, some .null, some .null, none]), .inr (8, [some (.ref 2)]), .inr (5, [some (.ref 3)]), .inl (0, 184), .inr (0, [some (.ref 1), some (.ref 5)]), .inr (6, [none, none, none, none]), .inr (7, [some (.ref 1), some (.ref 7), some (.ref 9), some (.ref 11), some (.ref 13), some (.ref 15)]), .inr (5, [some (.ref 8)]), .inl (0, 10), .inr (5, [some (.ref 10)]), .inl (0, 6), .inr (5, [some (.ref 12)]), .inl (0, 6), .inr (5, [some (.ref 14)]), .inl (0, 6), .inr (5, [some (.ref 16)]), .inl (0, 6), .inr (2, [some (.ref 18), none, none]), .inr (5, [some (.ref 19)]), .inl (0, 1656), .inr (5, [some (.ref 21)]), .inl (0, 184), .inr (3, [some (.ref 23), none, none]), .inr (5, [some (.ref 24)]), .inl (0, 60), .inr (1, [some .null, some (.ref 26), some .null, none, none, none]), .inr (5, [some (.ref 27)]), .inl (0, 11), .inr (5, [some .null])]
def ks_58 : List am_E := [.inr (9, [some (.ref 1), some (.ref 4), some (.ref 6), some (.ref 17), some (.ref 20), none, some (.ref 22), some .null, some .null, some .null, none]), .inr (8, [some (.ref 2)]), .inr (5, [some (.ref 3)]), .inl (0, 184), .inr (0, [some (.ref 1), some (.ref 5)]), .inr (6, [none, none, none, none]), .inr (7, [some (.ref 1), some (.ref 7), some (.ref 9), some (.ref 11), some (.ref 13), some (.ref 15)]), .inr (5, [some (.ref 8)]), .inl (0, 10), .inr (5, [some (.ref 10)]), .inl (0, 6), .inr (5, [some (.ref 12)]), .inl (0, 6), .inr (5, [some (.ref 14)]), .inl (0, 6), .inr (5, [some (.ref 16)]), .inl (0, 6), .inr (2, [some (.ref 18), none, none]), .inr (5, [some (.ref 19)]), .inl (0, 1656), .inr (5, [some (.ref 21)]), .inl (0, 184), .inr (3, [some (.ref 23), none, none]), .inr (5, [some (.ref 24)]), .inl (0, 60), .inr (1, [some .null, some (.ref 26), some .null, none, none, none]), .inr (5, [some (.ref 27)]), .inl (0, 11), .inr (5, [some .null]), .inl (0, 44)]
def ks_59 : List am_E := [.inr (9, [some (.ref 1), some (.ref 4), some (.ref 6), some (.ref 17), some (.ref 20), none, some (.ref 22), some .null, some .null, some .null, none]), .inr (8, [some (.ref 2)]), .inr (5, [some (.ref 3)]), .inl (0, 184), .inr (0, [some (.ref 1), some (.ref 5)]), .inr (6, [none, none, none, none]), .inr (7, [some (.ref 1), some (.ref 7), some (.ref 9), some (.ref 11), some (.ref 13), some (.ref 15)]), .inr (5, [some (.ref 8)]), .inl (0, 10), .inr (5, [some (.ref 10)]), .inl (0, 6), .inr (5, [some (.ref 12)]), .inl (0, 6), .inr (5, [some (.ref 14)]), .inl (0, 6), .inr (5, [some (.ref 16)]), .inl (0, 6), .inr (2, [some (.ref 18), none, none]), .inr (5, [some (.ref 19)]), .inl (0, 1656), .inr (5, [some (.ref 21)]), .inl (0, 184), .inr (3, [some (.ref 23), none, none]), .inr (5, [some (.ref 24)]), .inl (0, 60), .inr (1, [some .null, some (.ref 26), some .null, none, none, none]), .inr (5, [some (.ref 27)]), .inl (0, 11), .inr (5, [some (.ref 29)]), .inl (0, 44)]
def ks_60 : List am_E := [.inr (9, [some (.ref 1), some (.ref 4), some (.ref 6), some (.ref 17), some (.ref 20), none, some (.ref 22), some .null, some .null, some .null, none]), .inr (8, [some (.ref 2)]), .inr (5, [some (.ref 3)]), .inl (0, 184), .inr (0, [some (.ref 1), some (.ref 5)]), .inr (6, [none, none, none, none]), .inr (7, [some (.ref 1), some (.ref 7), some (.ref 9), some (.ref 11), some (.ref 13), some (.ref 15)]), .inr (5, [some (.ref 8)]), .inl (0, 10), .inr (5, [some (.ref 10)]), .inl (0, 6), .inr (5, [some (.ref 12)]), .inl (0, 6), .inr (5, [some (.ref 14)]), .inl (0, 6), .inr (5, [some (.ref 16)]), .inl (0, 6), .inr (2, [some (.ref 18), none, none]), .inr (5, [some (.ref 19)]), .inl (0, 1656), .inr (5, [some (.ref 21)]), .inl (0, 184), .inr (3, [some (.ref 23), none, none]), .inr (5, [some (.ref 24)]), .inl (0, 60), .inr (1, [some .null, some (.ref 26), some (.ref 28), none, none, none]), .inr (5, [some (.ref 27)]), .inl (0, 11), .inr (5, [some (.ref 29)]), .inl (0, 44)]
def ks_61 : List am_E := [.inr (9, [some (.ref 1), some (.ref 4), some (.ref 6), some (.ref 17), some (.ref 20), none, some (.ref 22), some .null, some .null, some .null, none]), .inr (8, [some (.ref 2)]), .inr (5, [some (.ref 3)]), .inl (0, 184), .inr (0, [some (.ref 1), some (.ref 5)]), .inr (6, [none, none, none, none]), .inr (7, [some (.ref 1), some (.ref 7), some (.ref 9), some (.ref 11), some (.ref 13), some (.ref 15)]), .inr (5, [some (.ref 8)]), .inl (0, 10), .inr (5, [some (.ref 10)]), .inl (0, 6), .inr (5, [some (.ref 12)]), .inl (0, 6), .inr (5, [some (.ref 14)]), .inl (0, 6), .inr (5, [some (.ref 16)]), .inl (0, 6), .inr (2, [some (.ref 18), none, none]), .inr (5, [some (.ref 19)]), .inl (0, 1656), .inr (5, [some (.ref 21)]), .inl (0, 184), .inr (3, [some (.ref 23), none, none]), .inr (5, [some (.ref 24)]), .inl (0, 60), .inr (1, [some (.ref 22), some (.ref 26), some (.ref 28), none, none, none]), .inr (5, [some (.ref 27)]), .inl (0, 11), .inr (5, [some (.ref 29)]), .inl (0, 44)]
def ks_62 : List am_E := [.inr (9, [some (.ref 1), some (.ref 4), some (.ref 6), some (.ref 17), some (.ref 20), none, some (.ref 22), some (.ref 25), some .null, some .null, none]), .inr (8, [some (.ref 2)]), .inr (5, [some (.ref 3)]), .inl (0, 184), .inr (0, [some (.ref 1), some (.ref 5)]), .inr (6, [none, none, none, none]), .inr (7, [some (.ref 1), some (.ref 7), some (.ref 9), some (.ref 11), some (.ref 13), some (.ref 15)]), .inr (5, [some (.ref 8)]), .inl (0, 10), .inr (5, [some (.ref 10)]), .inl (0, 6), .inr (5, [some (.ref 12)]), .inl (0, 6), .inr (5, [some (.ref 14)]), .inl (0, 6), .inr (5, [some (.ref 16)]), .inl (0, 6), .inr (2, [some (.ref 18), none, none]), .inr (5, [some (.ref 19)]), .inl (0, 1656), .inr (5, [some (.ref 21)]), .inl (0, 184), .inr (3, [some (.ref 23), none, none]), .inr (5, [some (.ref 24)]), .inl (0, 60), .inr (1, [some (.ref 22), some (.ref 26), some (.ref 28), none, none, none]), .inr (5, [some (.ref 27)]), .inl (0, 11), .inr (5, [some (.ref 29)]), .inl (0, 44)]
def ks_63 : List am_E := [.inr (9, [some (.ref 1), some (.ref 4), some (.ref 6), some (.ref 17), some (.ref 20), none, some (.ref 22), some (.ref 25), some .null, some .null, none]), .inr (8, [some (.ref 2)]), .inr (5, [some (.ref 3)]), .inl (0, 184), .inr (0, [some (.ref 1), some (.ref 5)]), .inr (6, [none, none, none, none]), .inr (7, [some (.ref 1), some (.ref 7), some (.ref 9), some (.ref 11), some (.ref 13), some (.ref 15)]), .inr (5, [some (.ref 8)]), .inl (0, 10), .inr (5, [some (.ref 10)]), .inl (0, 6), .inr (5, [some (.ref 12)]), .inl (0, 6), .inr (5, [some (.ref 14)]), .inl (0, 6), .inr (5, [some (.ref 16)]), .inl (0, 6), .inr (2, [some (.ref 18), none, none]), .inr (5, [some (.ref 19)]), .inl (0, 1656), .inr (5, [some (.ref 21)]), .inl (0, 184), .inr (3, [some (.ref 23), none, none]), .inr (5, [some (.ref 24)]), .inl (0, 60), .inr (1, [some (.ref 22), some (.ref 26), some (.ref 28), none, none, none]), .inr (5, [some (.ref 27)]), .inl (0, 11), .inr (5, [some (.ref 29)]), .inl (0, 44), .inr (3, [some .null, none, none])]
def sa_2 : az_S := am_up sa_1 30 1 (16)
def ks_64 : List am_E := [.inr (9, [some (.ref 1), some (.ref 4), some (.ref 6), some (.ref 17), some (.ref 20), none, some (.ref 22), some (.ref 25), some .null, some .null, none]), .inr (8, [some (.ref 2)]), .inr (5, [some (.ref 3)]), .inl (0, 184), .inr (0, [some (.ref 1), some (.ref 5)]), .inr (6, [none, none, none, none]), .inr (7, [some (.ref 1), some (.ref 7), some (.ref 9), some (.ref 11), some (.ref 13), some (.ref 15)]), .inr (5, [some (.ref 8)]), .inl (0, 10), .inr (5, [some (.ref 10)]), .inl (0, 6), .inr (5, [some (.ref 12)]), .inl (0, 6), .inr (5, [some (.ref 14)]), .inl (0, 6), .inr (5, [some (.ref 16)]), .inl (0, 6), .inr (2, [some (.ref 18), none, none]), .inr (5, [some (.ref 19)]), .inl (0, 1656), .inr (5, [some (.ref 21)]), .inl (0, 184), .inr (3, [some (.ref 23), none, none]), .inr (5, [some (.ref 24)]), .inl (0, 60), .inr (1, [some (.ref 22), some (.ref 26), some (.ref 28), none, none, none]), .inr (5, [some (.ref 27)]), .inl (0, 11), .inr (5, [some (.ref 29)]), .inl (0, 44), .inr (3, [some .null, none, none]), .inr (5, [some .null])]
def ks_65 : List am_E := [.inr (9, [some (.ref 1), some (.ref 4), some (.ref 6), some (.ref 17), some (.ref 20), none, some (.ref 22), some (.ref 25), some .null, some .null, none]), .inr (8, [some (.ref 2)]), .inr (5, [some (.ref 3)]), .inl (0, 184), .inr (0, [some (.ref 1), some (.ref 5)]), .inr (6, [none, none, none, none]), .inr (7, [some (.ref 1), some (.ref 7), some (.ref 9), some (.ref 11), some (.ref 13), some (.ref 15)]), .inr (5, [some (.ref 8)]), .inl (0, 10), .inr (5, [some (.ref 10)]), .inl (0, 6), .inr (5, [some (.ref 12)]), .inl (0, 6), .inr (5, [some (.ref 14)]), .inl (0, 6), .inr (5, [some (.ref 16)]), .inl (0, 6), .inr (2, [some (.ref 18), none, none]), .inr (5, [some (.ref 19)]), .inl (0, 1656), .inr (5, [some (.ref 21)]), .inl (0, 184), .inr (3, [some (.ref 23), none, none]), .inr (5, [some (.ref 24)]), .inl (0, 60), .inr (1, [some (.ref 22), some (.ref 26), some (.ref 28), none, none, none]), .inr (5, [some (.ref 27)]), .inl (0, 11), .inr (5, [some (.ref 29)]), .inl (0, 44), .inr (3, [some .null, none, none]), .inr (5, [some .null]), .inl (0, 16)]
def ks_66 : List am_E := [.inr (9, [some (.ref 1), some (.ref 4), some (.ref 6), some (.ref 17), some (.ref 20), none, some (.ref 22), some (.ref 25), some .null, some .null, none]), .inr (8, [some (.ref 2)]), .inr (5, [some (.ref 3)]), .inl (0, 184), .inr (0, [some (.ref 1), some (.ref 5)]), .inr (6, [none, none, none, none]), .inr (7, [some (.ref 1), some (.ref 7), some (.ref 9), some (.ref 11), some (.ref 13), some (.ref 15)]), .inr (5, [some (.ref 8)]), .inl (0, 10), .inr (5, [some (.ref 10)]), .inl (0, 6), .inr (5, [some (.ref 12)]), .inl (0, 6), .inr (5, [some (.ref 14)]), .inl (0, 6), .inr (5, [some (.ref 16)]), .inl (0, 6), .inr (2, [some (.ref 18), none, none]), .inr (5, [some (.ref 19)]), .inl (0, 1656), .inr (5, [some (.ref 21)]), .inl (0, 184), .inr (3, [some (.ref 23), none, none]), .inr (5, [some (.ref 24)]), .inl (0, 60), .inr (1, [some (.ref 22), some (.ref 26), some (.ref 28), none, none, none]), .inr (5, [some (.ref 27)]), .inl (0, 11), .inr (5, [some (.ref 29)]), .inl (0, 44), .inr (3, [some .null, none, none]), .inr (5, [some (.ref 32)]), .inl (0, 16)]
def ks_67 : List am_E := [.inr (9, [some (.ref 1), some (.ref 4), some (.ref 6), some (.ref 17), some (.ref 20), none, some (.ref 22), some (.ref 25), some .null, some .null, none]), .inr (8, [some (.ref 2)]), .inr (5, [some (.ref 3)]), .inl (0, 184), .inr (0, [some (.ref 1), some (.ref 5)]), .inr (6, [none, none, none, none]), .inr (7, [some (.ref 1), some (.ref 7), some (.ref 9), some (.ref 11), some (.ref 13), some (.ref 15)]), .inr (5, [some (.ref 8)]), .inl (0, 10), .inr (5, [some (.ref 10)]), .inl (0, 6), .inr (5, [some (.ref 12)]), .inl (0, 6), .inr (5, [some (.ref 14)]), .inl (0, 6), .inr (5, [some (.ref 16)]), .inl (0, 6), .inr (2, [some (.ref 18), none, none]), .inr (5, [some (.ref 19)]), .inl (0, 1656), .inr (5, [some (.ref 21)]), .inl (0, 184), .inr (3, [some (.ref 23), none, none]), .inr (5, [some (.ref 24)]), .inl (0, 60), .inr (1, [some (.ref 22), some (.ref 26), some (.ref 28), none, none, none]), .inr (5, [some (.ref 27)]), .inl (0, 11), .inr (5, [some (.ref 29)]), .inl (0, 44), .inr (3, [some (.ref 31), none, none]), .inr (5, [some (.ref 32)]), .inl (0, 16)]
def ks_68 : List am_E := [.inr (9, [some (.ref 1), some (.ref 4), some (.ref 6), some (.ref 17), some (.ref 20), none, some (.ref 22), some (.ref 25), some (.ref 30), some .null, none]), .inr (8, [some (.ref 2)]), .inr (5, [some (.ref 3)]), .inl (0, 184), .inr (0, [some (.ref 1), some (.ref 5)]), .inr (6, [none, none, none, none]), .inr (7, [some (.ref 1), some (.ref 7), some (.ref 9), some (.ref 11), some (.ref 13), some (.ref 15)]), .inr (5, [some (.ref 8)]), .inl (0, 10), .inr (5, [some (.ref 10)]), .inl (0, 6), .inr (5, [some (.ref 12)]), .inl (0, 6), .inr (5, [some (.ref 14)]), .inl (0, 6), .inr (5, [some (.ref 16)]), .inl (0, 6), .inr (2, [some (.ref 18), none, none]), .inr (5, [some (.ref 19)]), .inl (0, 1656), .inr (5, [some (.ref 21)]), .inl (0, 184), .inr (3, [some (.ref 23), none, none]), .inr (5, [some (.ref 24)]), .inl (0, 60), .inr (1, [some (.ref 22), some (.ref 26), some (.ref 28), none, none, none]), .inr (5, [some (.ref 27)]), .inl (0, 11), .inr (5, [some (.ref 29)]), .inl (0, 44), .inr (3, [some (.ref 31), none, none]), .inr (5, [some (.ref 32)]), .inl (0, 16)]
def ks_69 : List am_E := [.inr (9, [some (.ref 1), some (.ref 4), some (.ref 6), some (.ref 17), some (.ref 20), none, some (.ref 22), some (.ref 25), some (.ref 30), some .null, none]), .inr (8, [some (.ref 2)]), .inr (5, [some (.ref 3)]), .inl (0, 184), .inr (0, [some (.ref 1), some (.ref 5)]), .inr (6, [none, none, none, none]), .inr (7, [some (.ref 1), some (.ref 7), some (.ref 9), some (.ref 11), some (.ref 13), some (.ref 15)]), .inr (5, [some (.ref 8)]), .inl (0, 10), .inr (5, [some (.ref 10)]), .inl (0, 6), .inr (5, [some (.ref 12)]), .inl (0, 6), .inr (5, [some (.ref 14)]), .inl (0, 6), .inr (5, [some (.ref 16)]), .inl (0, 6), .inr (2, [some (.ref 18), none, none]), .inr (5, [some (.ref 19)]), .inl (0, 1656), .inr (5, [some (.ref 21)]), .inl (0, 184), .inr (3, [some (.ref 23), none, none]), .inr (5, [some (.ref 24)]), .inl (0, 60), .inr (1, [some (.ref 22), some (.ref 26), some (.ref 28), none, none, none]), .inr (5, [some (.ref 27)]), .inl (0, 11), .inr (5, [some (.ref 29)]), .inl (0, 44), .inr (3, [some (.ref 31), none, none]), .inr (5, [some (.ref 32)]), .inl (0, 16), .inr (4, [none, none, none, none])]
def ks_70 : List am_E := [.inr (9, [some (.ref 1), some (.ref 4), some (.ref 6), some (.ref 17), some (.ref 20), none, some (.ref 22), some (.ref 25), some (.ref 30), some (.ref 33), none]), .inr (8, [some (.ref 2)]), .inr (5, [some (.ref 3)]), .inl (0, 184), .inr (0, [some (.ref 1), some (.ref 5)]), .inr (6, [none, none, none, none]), .inr (7, [some (.ref 1), some (.ref 7), some (.ref 9), some (.ref 11), some (.ref 13), some (.ref 15)]), .inr (5, [some (.ref 8)]), .inl (0, 10), .inr (5, [some (.ref 10)]), .inl (0, 6), .inr (5, [some (.ref 12)]), .inl (0, 6), .inr (5, [some (.ref 14)]), .inl (0, 6), .inr (5, [some (.ref 16)]), .inl (0, 6), .inr (2, [some (.ref 18), none, none]), .inr (5, [some (.ref 19)]), .inl (0, 1656), .inr (5, [some (.ref 21)]), .inl (0, 184), .inr (3, [some (.ref 23), none, none]), .inr (5, [some (.ref 24)]), .inl (0, 60), .inr (1, [some (.ref 22), some (.ref 26), some (.ref 28), none, none, none]), .inr (5, [some (.ref 27)]), .inl (0, 11), .inr (5, [some (.ref 29)]), .inl (0, 44), .inr (3, [some (.ref 31), none, none]), .inr (5, [some (.ref 32)]), .inl (0, 16), .inr (4, [none, none, none, none])]
def sa_3 : az_S := am_up sa_2 0 10 (-1)
theorem ks_az : ks_70 = az_K := rfl
/-- the start -/
theorem zz_0 : zrr (fun _ => 0) (fun _ => 0) 0 := by
  refine ⟨⟨⟨rfl, rfl, rfl, rfl, rfl⟩, fun b k hb _ => absurd hb (by exact Nat.not_lt_zero _), fun b k hb hk k4 k6 => ?_, fun t k _ _ => rfl, fun g k _ _ => rfl⟩, ⟨⟨by decide, by decide, by decide, by decide, by decide, by decide, by decide, by decide, by decide, by decide⟩, fun b hb => absurd hb (by exact Nat.not_lt_zero _), fun b hb => ?_, fun t ht => ?_, fun g hg => ?_, fun t ht => absurd ht (by exact Nat.not_lt_zero _), fun t u ht => absurd ht (by exact Nat.not_lt_zero _), ?_⟩, fun t ht => by show (0 : Int) ≤ 0 + 48; decide⟩
  · unfold zcb
    rw [if_neg k4]
    split <;> rfl
  · exact ⟨(by decide : (0 : Int) ≤ 0), (by decide : (0 : Int) ≤ 48 * ((0 : Nat) : Int) + 48), (by decide : (0 : Int) ≤ 0), (by decide : (0 : Int) ≤ ((0 : Nat) : Int)), fun g _ => (by decide : (0 : Int) ≤ 0), fun g _ _ => rfl, fun _ => ⟨rfl, rfl, fun g _ => rfl⟩⟩
  · exact ⟨(by decide : (-1 : Int) ≤ 0), (by decide : (0 : Int) < 10), (by decide : (0 : Int) ≤ 0), (by decide : (0 : Int) ≤ 495 * ((0 : Nat) : Int)), (by decide : (0 : Int) ≤ 0), (by decide : (0 : Int) ≤ 9), (by decide : (0 : Int) ≤ 0), (by decide : (0 : Int) ≤ 48 * ((0 : Nat) : Int) + 48), fun w => absurd w (by exact Int.lt_irrefl 0)⟩
  · exact ⟨(by decide : (0 : Int) ≤ 0), (by decide : (0 : Int) ≤ 5), (by decide : (0 : Int) ≤ 0), (by show (0 : Int) + zs 10 (fun _ => 0) ≤ 99; decide), (by decide : (0 : Int) ≤ 0), (by decide : (0 : Int) ≤ 1), (by decide : (0 : Int) ≤ 0), (by decide : (0 : Int) ≤ 27 * ((0 : Nat) : Int)), (by decide : (0 : Int) ≤ 0), (by decide : (0 : Int) ≤ ((0 : Nat) : Int)), fun _ => ⟨rfl, rfl, rfl, rfl⟩⟩
  · show (0 : Int) = zs 5 (fun _ => 0)
    decide
theorem zM_0 : zM (fun _ => 0) := by
  refine ⟨?_, ?_, fun b hb h => absurd (show (0 : Int) < 0 from h) (by decide), fun t ht h => rfl⟩
  · show (0 : Int) = zs 5 (fun _ => 0) + zs 6 (fun _ => 0) + zs 10 (fun _ => zs 5 (fun _ => 0))
    decide
  · show zs 10 (fun _ => (0 : Int)) = 0
    decide
theorem zkS_0 : zkS sa_3 (fun _ => 0) 0 0 (fun _ _ => 0) :=
  ⟨⟨zz_0, zM_0⟩, ⟨0, by decide, by decide, rfl, rfl, fun i hi => absurd hi (by omega)⟩, ⟨rfl, rfl⟩, rfl⟩
theorem ct_3 {L : Nat} {xs : Nat → Int32} {tx : Nat → Option String} {gl : Nat → Nat → Int64} {gd : Nat → Nat → UInt64} : ar_R L xs tx 22 am_m_X5_init 0 (am_ini (am_mL am_m_X5_init) [.ref 2, .int (Int32.ofInt 184)]) [] (ks_3, az_G sa_0, gl, gd) false (fun r => r = (.inl none, (ks_5, az_G sa_0, gl, gd), false, 1, 184)) := by
  refine ar_s 1 [some (.ref 2), some (.int (Int32.ofInt 184))] [.ref 2] rfl rfl ?_
  refine ar_h 4 [] (ks_3, az_G sa_0, gl, gd) false rfl rfl rfl rfl ?_
  refine ar_s 5 [some (.ref 2), some (.int (Int32.ofInt 184))] [.ref 2] rfl rfl ?_
  refine ar_s 6 [some (.ref 2), some (.int (Int32.ofInt 184))] [.int (Int32.ofInt 184), .ref 2] rfl rfl ?_
  refine ar_s 7 [some (.ref 2), some (.int (Int32.ofInt 184))] [.int (Int32.ofInt 0), .int (Int32.ofInt 184), .ref 2] rfl rfl ?_
  refine ar_h 10 [.int (Int32.ofInt 184), .ref 2] (ks_3, az_G sa_0, gl, gd) false rfl rfl rfl rfl ?_
  refine ar_h 12 [.ref 3, .ref 2] (ks_4, az_G sa_0, gl, gd) false rfl rfl (ar_hi (n := 184) (by decide) rfl (fun j => rfl) rfl) rfl ?_
  refine ar_h 15 [] (ks_5, az_G sa_0, gl, gd) false rfl rfl (ar_hr rfl rfl (by decide +kernel) rfl rfl) rfl ?_
  exact ar_e rfl rfl rfl rfl rfl (by simp only [am_add]; first | done | rfl)
theorem ct_2 {L : Nat} {xs : Nat → Int32} {tx : Nat → Option String} {gl : Nat → Nat → Int64} {gd : Nat → Nat → UInt64} : ar_R L xs tx 23 am_m_X8_init 0 (am_ini (am_mL am_m_X8_init) [.ref 1]) [] (ks_2, az_G sa_0, gl, gd) false (fun r => r = (.inl none, (ks_6, az_G sa_0, gl, gd), false, 2, 185)) := by
  refine ar_s 1 [some (.ref 1)] [.ref 1] rfl rfl ?_
  refine ar_h 4 [] (ks_2, az_G sa_0, gl, gd) false rfl rfl rfl rfl ?_
  refine ar_s 5 [some (.ref 1)] [.ref 1] rfl rfl ?_
  refine ar_h 8 [.ref 2, .ref 1] (ks_3, az_G sa_0, gl, gd) false rfl rfl (ar_hn rfl rfl (fun j => rfl) rfl rfl) rfl ?_
  refine ar_s 9 [some (.ref 1)] [.ref 2, .ref 2, .ref 1] rfl rfl ?_
  refine ar_s 12 [some (.ref 1)] [.int (Int32.ofInt 184), .ref 2, .ref 2, .ref 1] rfl rfl ?_
  refine ar_c (d := 22) 15 (ks_5, az_G sa_0, gl, gd) false rfl rfl rfl rfl rfl ct_3 ?_
  refine ar_h 18 [] (ks_6, az_G sa_0, gl, gd) false rfl rfl (ar_hr rfl rfl (by decide +kernel) rfl rfl) rfl ?_
  exact ar_e rfl rfl rfl rfl rfl (by simp only [am_add]; first | done | rfl)
theorem ct_5 {L : Nat} {xs : Nat → Int32} {tx : Nat → Option String} {gl : Nat → Nat → Int64} {gd : Nat → Nat → UInt64} : ar_R L xs tx 22 am_m_X6_init 0 (am_ini (am_mL am_m_X6_init) [.ref 5]) [] (ks_9, az_G sa_0, gl, gd) false (fun r => r = (.inl none, (ks_9, az_G sa_0, gl, gd), false, 0, 0)) := by
  refine ar_s 1 [some (.ref 5)] [.ref 5] rfl rfl ?_
  refine ar_h 4 [] (ks_9, az_G sa_0, gl, gd) false rfl rfl rfl rfl ?_
  refine ar_s 5 [some (.ref 5)] [.ref 5] rfl rfl ?_
  refine ar_s 6 [some (.ref 5)] [.int (Int32.ofInt 0), .ref 5] rfl rfl ?_
  refine ar_h 9 [] (ks_9, az_G sa_0, gl, gd) false rfl rfl (ar_hu rfl rfl (by decide +kernel) rfl (ar_p0 rfl)) rfl ?_
  refine ar_s 10 [some (.ref 5)] [.ref 5] rfl rfl ?_
  refine ar_s 11 [some (.ref 5)] [.int (Int32.ofInt 0), .ref 5] rfl rfl ?_
  refine ar_h 14 [] (ks_9, az_G sa_0, gl, gd) false rfl rfl (ar_hu rfl rfl (by decide +kernel) rfl (ar_p0 rfl)) rfl ?_
  refine ar_s 15 [some (.ref 5)] [.ref 5] rfl rfl ?_
  refine ar_s 16 [some (.ref 5)] [.int (Int32.ofInt 0), .ref 5] rfl rfl ?_
  refine ar_h 19 [] (ks_9, az_G sa_0, gl, gd) false rfl rfl (ar_hu rfl rfl (by decide +kernel) rfl (ar_p0 rfl)) rfl ?_
  refine ar_s 20 [some (.ref 5)] [.ref 5] rfl rfl ?_
  refine ar_s 21 [some (.ref 5)] [.int (Int32.ofInt 0), .ref 5] rfl rfl ?_
  refine ar_h 24 [] (ks_9, az_G sa_0, gl, gd) false rfl rfl (ar_hu rfl rfl (by decide +kernel) rfl (ar_p0 rfl)) rfl ?_
  exact ar_e rfl rfl rfl rfl rfl (by simp only [am_add]; first | done | rfl)
theorem ct_4 {L : Nat} {xs : Nat → Int32} {tx : Nat → Option String} {gl : Nat → Nat → Int64} {gd : Nat → Nat → UInt64} : ar_R L xs tx 23 am_m_X0_init 0 (am_ini (am_mL am_m_X0_init) [.ref 4, .ref 1]) [] (ks_8, az_G sa_0, gl, gd) false (fun r => r = (.inl none, (ks_11, az_G sa_0, gl, gd), false, 1, 4)) := by
  refine ar_s 1 [some (.ref 4), some (.ref 1)] [.ref 4] rfl rfl ?_
  refine ar_h 4 [] (ks_8, az_G sa_0, gl, gd) false rfl rfl rfl rfl ?_
  refine ar_s 5 [some (.ref 4), some (.ref 1)] [.ref 4] rfl rfl ?_
  refine ar_h 8 [.ref 5, .ref 4] (ks_9, az_G sa_0, gl, gd) false rfl rfl (ar_hn rfl rfl (fun j => rfl) rfl rfl) rfl ?_
  refine ar_s 9 [some (.ref 4), some (.ref 1)] [.ref 5, .ref 5, .ref 4] rfl rfl ?_
  refine ar_c (d := 22) 12 (ks_9, az_G sa_0, gl, gd) false rfl rfl rfl rfl rfl ct_5 ?_
  refine ar_h 15 [] (ks_10, az_G sa_0, gl, gd) false rfl rfl (ar_hr rfl rfl (by decide +kernel) rfl rfl) rfl ?_
  refine ar_s 16 [some (.ref 4), some (.ref 1)] [.ref 4] rfl rfl ?_
  refine ar_s 17 [some (.ref 4), some (.ref 1)] [.ref 1, .ref 4] rfl rfl ?_
  refine ar_h 20 [] (ks_11, az_G sa_0, gl, gd) false rfl rfl (ar_hr rfl rfl (by decide +kernel) rfl rfl) rfl ?_
  exact ar_e rfl rfl rfl rfl rfl (by simp only [am_add]; first | done | rfl)
theorem ct_7 {L : Nat} {xs : Nat → Int32} {tx : Nat → Option String} {gl : Nat → Nat → Int64} {gd : Nat → Nat → UInt64} : ar_R L xs tx 22 am_m_X5_init 0 (am_ini (am_mL am_m_X5_init) [.ref 7, .int (Int32.ofInt 10)]) [] (ks_14, az_G sa_0, gl, gd) false (fun r => r = (.inl none, (ks_16, az_G sa_0, gl, gd), false, 1, 10)) := by
  refine ar_s 1 [some (.ref 7), some (.int (Int32.ofInt 10))] [.ref 7] rfl rfl ?_
  refine ar_h 4 [] (ks_14, az_G sa_0, gl, gd) false rfl rfl rfl rfl ?_
  refine ar_s 5 [some (.ref 7), some (.int (Int32.ofInt 10))] [.ref 7] rfl rfl ?_
  refine ar_s 6 [some (.ref 7), some (.int (Int32.ofInt 10))] [.int (Int32.ofInt 10), .ref 7] rfl rfl ?_
  refine ar_s 7 [some (.ref 7), some (.int (Int32.ofInt 10))] [.int (Int32.ofInt 0), .int (Int32.ofInt 10), .ref 7] rfl rfl ?_
  refine ar_h 10 [.int (Int32.ofInt 10), .ref 7] (ks_14, az_G sa_0, gl, gd) false rfl rfl rfl rfl ?_
  refine ar_h 12 [.ref 8, .ref 7] (ks_15, az_G sa_0, gl, gd) false rfl rfl (ar_hi (n := 10) (by decide) rfl (fun j => rfl) rfl) rfl ?_
  refine ar_h 15 [] (ks_16, az_G sa_0, gl, gd) false rfl rfl (ar_hr rfl rfl (by decide +kernel) rfl rfl) rfl ?_
  exact ar_e rfl rfl rfl rfl rfl (by simp only [am_add]; first | done | rfl)
theorem ct_8 {L : Nat} {xs : Nat → Int32} {tx : Nat → Option String} {gl : Nat → Nat → Int64} {gd : Nat → Nat → UInt64} : ar_R L xs tx 22 am_m_X5_init 0 (am_ini (am_mL am_m_X5_init) [.ref 9, .int (Int32.ofInt 6)]) [] (ks_18, az_G sa_0, gl, gd) false (fun r => r = (.inl none, (ks_20, az_G sa_0, gl, gd), false, 1, 6)) := by
  refine ar_s 1 [some (.ref 9), some (.int (Int32.ofInt 6))] [.ref 9] rfl rfl ?_
  refine ar_h 4 [] (ks_18, az_G sa_0, gl, gd) false rfl rfl rfl rfl ?_
  refine ar_s 5 [some (.ref 9), some (.int (Int32.ofInt 6))] [.ref 9] rfl rfl ?_
  refine ar_s 6 [some (.ref 9), some (.int (Int32.ofInt 6))] [.int (Int32.ofInt 6), .ref 9] rfl rfl ?_
  refine ar_s 7 [some (.ref 9), some (.int (Int32.ofInt 6))] [.int (Int32.ofInt 0), .int (Int32.ofInt 6), .ref 9] rfl rfl ?_
  refine ar_h 10 [.int (Int32.ofInt 6), .ref 9] (ks_18, az_G sa_0, gl, gd) false rfl rfl rfl rfl ?_
  refine ar_h 12 [.ref 10, .ref 9] (ks_19, az_G sa_0, gl, gd) false rfl rfl (ar_hi (n := 6) (by decide) rfl (fun j => rfl) rfl) rfl ?_
  refine ar_h 15 [] (ks_20, az_G sa_0, gl, gd) false rfl rfl (ar_hr rfl rfl (by decide +kernel) rfl rfl) rfl ?_
  exact ar_e rfl rfl rfl rfl rfl (by simp only [am_add]; first | done | rfl)
theorem ct_9 {L : Nat} {xs : Nat → Int32} {tx : Nat → Option String} {gl : Nat → Nat → Int64} {gd : Nat → Nat → UInt64} : ar_R L xs tx 22 am_m_X5_init 0 (am_ini (am_mL am_m_X5_init) [.ref 11, .int (Int32.ofInt 6)]) [] (ks_22, az_G sa_0, gl, gd) false (fun r => r = (.inl none, (ks_24, az_G sa_0, gl, gd), false, 1, 6)) := by
  refine ar_s 1 [some (.ref 11), some (.int (Int32.ofInt 6))] [.ref 11] rfl rfl ?_
  refine ar_h 4 [] (ks_22, az_G sa_0, gl, gd) false rfl rfl rfl rfl ?_
  refine ar_s 5 [some (.ref 11), some (.int (Int32.ofInt 6))] [.ref 11] rfl rfl ?_
  refine ar_s 6 [some (.ref 11), some (.int (Int32.ofInt 6))] [.int (Int32.ofInt 6), .ref 11] rfl rfl ?_
  refine ar_s 7 [some (.ref 11), some (.int (Int32.ofInt 6))] [.int (Int32.ofInt 0), .int (Int32.ofInt 6), .ref 11] rfl rfl ?_
  refine ar_h 10 [.int (Int32.ofInt 6), .ref 11] (ks_22, az_G sa_0, gl, gd) false rfl rfl rfl rfl ?_
  refine ar_h 12 [.ref 12, .ref 11] (ks_23, az_G sa_0, gl, gd) false rfl rfl (ar_hi (n := 6) (by decide) rfl (fun j => rfl) rfl) rfl ?_
  refine ar_h 15 [] (ks_24, az_G sa_0, gl, gd) false rfl rfl (ar_hr rfl rfl (by decide +kernel) rfl rfl) rfl ?_
  exact ar_e rfl rfl rfl rfl rfl (by simp only [am_add]; first | done | rfl)
theorem ct_10 {L : Nat} {xs : Nat → Int32} {tx : Nat → Option String} {gl : Nat → Nat → Int64} {gd : Nat → Nat → UInt64} : ar_R L xs tx 22 am_m_X5_init 0 (am_ini (am_mL am_m_X5_init) [.ref 13, .int (Int32.ofInt 6)]) [] (ks_26, az_G sa_0, gl, gd) false (fun r => r = (.inl none, (ks_28, az_G sa_0, gl, gd), false, 1, 6)) := by
  refine ar_s 1 [some (.ref 13), some (.int (Int32.ofInt 6))] [.ref 13] rfl rfl ?_
  refine ar_h 4 [] (ks_26, az_G sa_0, gl, gd) false rfl rfl rfl rfl ?_
  refine ar_s 5 [some (.ref 13), some (.int (Int32.ofInt 6))] [.ref 13] rfl rfl ?_
  refine ar_s 6 [some (.ref 13), some (.int (Int32.ofInt 6))] [.int (Int32.ofInt 6), .ref 13] rfl rfl ?_
  refine ar_s 7 [some (.ref 13), some (.int (Int32.ofInt 6))] [.int (Int32.ofInt 0), .int (Int32.ofInt 6), .ref 13] rfl rfl ?_
  refine ar_h 10 [.int (Int32.ofInt 6), .ref 13] (ks_26, az_G sa_0, gl, gd) false rfl rfl rfl rfl ?_
  refine ar_h 12 [.ref 14, .ref 13] (ks_27, az_G sa_0, gl, gd) false rfl rfl (ar_hi (n := 6) (by decide) rfl (fun j => rfl) rfl) rfl ?_
  refine ar_h 15 [] (ks_28, az_G sa_0, gl, gd) false rfl rfl (ar_hr rfl rfl (by decide +kernel) rfl rfl) rfl ?_
  exact ar_e rfl rfl rfl rfl rfl (by simp only [am_add]; first | done | rfl)
theorem ct_11 {L : Nat} {xs : Nat → Int32} {tx : Nat → Option String} {gl : Nat → Nat → Int64} {gd : Nat → Nat → UInt64} : ar_R L xs tx 22 am_m_X5_init 0 (am_ini (am_mL am_m_X5_init) [.ref 15, .int (Int32.ofInt 6)]) [] (ks_30, az_G sa_0, gl, gd) false (fun r => r = (.inl none, (ks_32, az_G sa_0, gl, gd), false, 1, 6)) := by
  refine ar_s 1 [some (.ref 15), some (.int (Int32.ofInt 6))] [.ref 15] rfl rfl ?_
  refine ar_h 4 [] (ks_30, az_G sa_0, gl, gd) false rfl rfl rfl rfl ?_
  refine ar_s 5 [some (.ref 15), some (.int (Int32.ofInt 6))] [.ref 15] rfl rfl ?_
  refine ar_s 6 [some (.ref 15), some (.int (Int32.ofInt 6))] [.int (Int32.ofInt 6), .ref 15] rfl rfl ?_
  refine ar_s 7 [some (.ref 15), some (.int (Int32.ofInt 6))] [.int (Int32.ofInt 0), .int (Int32.ofInt 6), .ref 15] rfl rfl ?_
  refine ar_h 10 [.int (Int32.ofInt 6), .ref 15] (ks_30, az_G sa_0, gl, gd) false rfl rfl rfl rfl ?_
  refine ar_h 12 [.ref 16, .ref 15] (ks_31, az_G sa_0, gl, gd) false rfl rfl (ar_hi (n := 6) (by decide) rfl (fun j => rfl) rfl) rfl ?_
  refine ar_h 15 [] (ks_32, az_G sa_0, gl, gd) false rfl rfl (ar_hr rfl rfl (by decide +kernel) rfl rfl) rfl ?_
  exact ar_e rfl rfl rfl rfl rfl (by simp only [am_add]; first | done | rfl)
theorem ct_6 {L : Nat} {xs : Nat → Int32} {tx : Nat → Option String} {gl : Nat → Nat → Int64} {gd : Nat → Nat → UInt64} : ar_R L xs tx 23 am_m_X7_init 0 (am_ini (am_mL am_m_X7_init) [.ref 6, .ref 1]) [] (ks_13, az_G sa_0, gl, gd) false (fun r => r = (.inl none, (ks_34, az_G sa_0, gl, gd), false, 10, 39)) := by
  refine ar_s 1 [some (.ref 6), some (.ref 1)] [.ref 6] rfl rfl ?_
  refine ar_h 4 [] (ks_13, az_G sa_0, gl, gd) false rfl rfl rfl rfl ?_
  refine ar_s 5 [some (.ref 6), some (.ref 1)] [.ref 6] rfl rfl ?_
  refine ar_h 8 [.ref 7, .ref 6] (ks_14, az_G sa_0, gl, gd) false rfl rfl (ar_hn rfl rfl (fun j => rfl) rfl rfl) rfl ?_
  refine ar_s 9 [some (.ref 6), some (.ref 1)] [.ref 7, .ref 7, .ref 6] rfl rfl ?_
  refine ar_s 11 [some (.ref 6), some (.ref 1)] [.int (Int32.ofInt 10), .ref 7, .ref 7, .ref 6] rfl rfl ?_
  refine ar_c (d := 22) 14 (ks_16, az_G sa_0, gl, gd) false rfl rfl rfl rfl rfl ct_7 ?_
  refine ar_h 17 [] (ks_17, az_G sa_0, gl, gd) false rfl rfl (ar_hr rfl rfl (by decide +kernel) rfl rfl) rfl ?_
  refine ar_s 18 [some (.ref 6), some (.ref 1)] [.ref 6] rfl rfl ?_
  refine ar_h 21 [.ref 9, .ref 6] (ks_18, az_G sa_0, gl, gd) false rfl rfl (ar_hn rfl rfl (fun j => rfl) rfl rfl) rfl ?_
  refine ar_s 22 [some (.ref 6), some (.ref 1)] [.ref 9, .ref 9, .ref 6] rfl rfl ?_
  refine ar_s 24 [some (.ref 6), some (.ref 1)] [.int (Int32.ofInt 6), .ref 9, .ref 9, .ref 6] rfl rfl ?_
  refine ar_c (d := 22) 27 (ks_20, az_G sa_0, gl, gd) false rfl rfl rfl rfl rfl ct_8 ?_
  refine ar_h 30 [] (ks_21, az_G sa_0, gl, gd) false rfl rfl (ar_hr rfl rfl (by decide +kernel) rfl rfl) rfl ?_
  refine ar_s 31 [some (.ref 6), some (.ref 1)] [.ref 6] rfl rfl ?_
  refine ar_h 34 [.ref 11, .ref 6] (ks_22, az_G sa_0, gl, gd) false rfl rfl (ar_hn rfl rfl (fun j => rfl) rfl rfl) rfl ?_
  refine ar_s 35 [some (.ref 6), some (.ref 1)] [.ref 11, .ref 11, .ref 6] rfl rfl ?_
  refine ar_s 37 [some (.ref 6), some (.ref 1)] [.int (Int32.ofInt 6), .ref 11, .ref 11, .ref 6] rfl rfl ?_
  refine ar_c (d := 22) 40 (ks_24, az_G sa_0, gl, gd) false rfl rfl rfl rfl rfl ct_9 ?_
  refine ar_h 43 [] (ks_25, az_G sa_0, gl, gd) false rfl rfl (ar_hr rfl rfl (by decide +kernel) rfl rfl) rfl ?_
  refine ar_s 44 [some (.ref 6), some (.ref 1)] [.ref 6] rfl rfl ?_
  refine ar_h 47 [.ref 13, .ref 6] (ks_26, az_G sa_0, gl, gd) false rfl rfl (ar_hn rfl rfl (fun j => rfl) rfl rfl) rfl ?_
  refine ar_s 48 [some (.ref 6), some (.ref 1)] [.ref 13, .ref 13, .ref 6] rfl rfl ?_
  refine ar_s 50 [some (.ref 6), some (.ref 1)] [.int (Int32.ofInt 6), .ref 13, .ref 13, .ref 6] rfl rfl ?_
  refine ar_c (d := 22) 53 (ks_28, az_G sa_0, gl, gd) false rfl rfl rfl rfl rfl ct_10 ?_
  refine ar_h 56 [] (ks_29, az_G sa_0, gl, gd) false rfl rfl (ar_hr rfl rfl (by decide +kernel) rfl rfl) rfl ?_
  refine ar_s 57 [some (.ref 6), some (.ref 1)] [.ref 6] rfl rfl ?_
  refine ar_h 60 [.ref 15, .ref 6] (ks_30, az_G sa_0, gl, gd) false rfl rfl (ar_hn rfl rfl (fun j => rfl) rfl rfl) rfl ?_
  refine ar_s 61 [some (.ref 6), some (.ref 1)] [.ref 15, .ref 15, .ref 6] rfl rfl ?_
  refine ar_s 63 [some (.ref 6), some (.ref 1)] [.int (Int32.ofInt 6), .ref 15, .ref 15, .ref 6] rfl rfl ?_
  refine ar_c (d := 22) 66 (ks_32, az_G sa_0, gl, gd) false rfl rfl rfl rfl rfl ct_11 ?_
  refine ar_h 69 [] (ks_33, az_G sa_0, gl, gd) false rfl rfl (ar_hr rfl rfl (by decide +kernel) rfl rfl) rfl ?_
  refine ar_s 70 [some (.ref 6), some (.ref 1)] [.ref 6] rfl rfl ?_
  refine ar_s 71 [some (.ref 6), some (.ref 1)] [.ref 1, .ref 6] rfl rfl ?_
  refine ar_h 74 [] (ks_34, az_G sa_0, gl, gd) false rfl rfl (ar_hr rfl rfl (by decide +kernel) rfl rfl) rfl ?_
  exact ar_e rfl rfl rfl rfl rfl (by simp only [am_add]; first | done | rfl)
theorem ct_13 {L : Nat} {xs : Nat → Int32} {tx : Nat → Option String} {gl : Nat → Nat → Int64} {gd : Nat → Nat → UInt64} : ar_R L xs tx 22 am_m_X5_init 0 (am_ini (am_mL am_m_X5_init) [.ref 18, .int (Int32.ofInt 1656)]) [] (ks_37, az_G sa_0, gl, gd) false (fun r => r = (.inl none, (ks_39, az_G sa_0, gl, gd), false, 1, 1656)) := by
  refine ar_s 1 [some (.ref 18), some (.int (Int32.ofInt 1656))] [.ref 18] rfl rfl ?_
  refine ar_h 4 [] (ks_37, az_G sa_0, gl, gd) false rfl rfl rfl rfl ?_
  refine ar_s 5 [some (.ref 18), some (.int (Int32.ofInt 1656))] [.ref 18] rfl rfl ?_
  refine ar_s 6 [some (.ref 18), some (.int (Int32.ofInt 1656))] [.int (Int32.ofInt 1656), .ref 18] rfl rfl ?_
  refine ar_s 7 [some (.ref 18), some (.int (Int32.ofInt 1656))] [.int (Int32.ofInt 0), .int (Int32.ofInt 1656), .ref 18] rfl rfl ?_
  refine ar_h 10 [.int (Int32.ofInt 1656), .ref 18] (ks_37, az_G sa_0, gl, gd) false rfl rfl rfl rfl ?_
  refine ar_h 12 [.ref 19, .ref 18] (ks_38, az_G sa_0, gl, gd) false rfl rfl (ar_hi (n := 1656) (by decide) rfl (fun j => rfl) rfl) rfl ?_
  refine ar_h 15 [] (ks_39, az_G sa_0, gl, gd) false rfl rfl (ar_hr rfl rfl (by decide +kernel) rfl rfl) rfl ?_
  exact ar_e rfl rfl rfl rfl rfl (by simp only [am_add]; first | done | rfl)
theorem ct_12 {L : Nat} {xs : Nat → Int32} {tx : Nat → Option String} {gl : Nat → Nat → Int64} {gd : Nat → Nat → UInt64} : ar_R L xs tx 23 am_m_X2_init 0 (am_ini (am_mL am_m_X2_init) [.ref 17]) [] (ks_36, az_G sa_0, gl, gd) false (fun r => r = (.inl none, (ks_40, az_G sa_0, gl, gd), false, 2, 1657)) := by
  refine ar_s 1 [some (.ref 17)] [.ref 17] rfl rfl ?_
  refine ar_h 4 [] (ks_36, az_G sa_0, gl, gd) false rfl rfl rfl rfl ?_
  refine ar_s 5 [some (.ref 17)] [.ref 17] rfl rfl ?_
  refine ar_h 8 [.ref 18, .ref 17] (ks_37, az_G sa_0, gl, gd) false rfl rfl (ar_hn rfl rfl (fun j => rfl) rfl rfl) rfl ?_
  refine ar_s 9 [some (.ref 17)] [.ref 18, .ref 18, .ref 17] rfl rfl ?_
  refine ar_s 12 [some (.ref 17)] [.int (Int32.ofInt 1656), .ref 18, .ref 18, .ref 17] rfl rfl ?_
  refine ar_c (d := 22) 15 (ks_39, az_G sa_0, gl, gd) false rfl rfl rfl rfl rfl ct_13 ?_
  refine ar_h 18 [] (ks_40, az_G sa_0, gl, gd) false rfl rfl (ar_hr rfl rfl (by decide +kernel) rfl rfl) rfl ?_
  refine ar_s 19 [some (.ref 17)] [.ref 17] rfl rfl ?_
  refine ar_s 20 [some (.ref 17)] [.int (Int32.ofInt 0), .ref 17] rfl rfl ?_
  refine ar_h 23 [] (ks_40, az_G sa_0, gl, gd) false rfl rfl (ar_hu rfl rfl (by decide +kernel) rfl (ar_p0 rfl)) rfl ?_
  refine ar_s 24 [some (.ref 17)] [.ref 17] rfl rfl ?_
  refine ar_s 25 [some (.ref 17)] [.int (Int32.ofInt 0), .ref 17] rfl rfl ?_
  refine ar_h 28 [] (ks_40, az_G sa_0, gl, gd) false rfl rfl (ar_hu rfl rfl (by decide +kernel) rfl (ar_p0 rfl)) rfl ?_
  exact ar_e rfl rfl rfl rfl rfl (by simp only [am_add]; first | done | rfl)
theorem ct_14 {L : Nat} {xs : Nat → Int32} {tx : Nat → Option String} {gl : Nat → Nat → Int64} {gd : Nat → Nat → UInt64} : ar_R L xs tx 23 am_m_X5_init 0 (am_ini (am_mL am_m_X5_init) [.ref 20, .int (Int32.ofInt 184)]) [] (ks_42, az_G sa_0, gl, gd) false (fun r => r = (.inl none, (ks_44, az_G sa_0, gl, gd), false, 1, 184)) := by
  refine ar_s 1 [some (.ref 20), some (.int (Int32.ofInt 184))] [.ref 20] rfl rfl ?_
  refine ar_h 4 [] (ks_42, az_G sa_0, gl, gd) false rfl rfl rfl rfl ?_
  refine ar_s 5 [some (.ref 20), some (.int (Int32.ofInt 184))] [.ref 20] rfl rfl ?_
  refine ar_s 6 [some (.ref 20), some (.int (Int32.ofInt 184))] [.int (Int32.ofInt 184), .ref 20] rfl rfl ?_
  refine ar_s 7 [some (.ref 20), some (.int (Int32.ofInt 184))] [.int (Int32.ofInt 0), .int (Int32.ofInt 184), .ref 20] rfl rfl ?_
  refine ar_h 10 [.int (Int32.ofInt 184), .ref 20] (ks_42, az_G sa_0, gl, gd) false rfl rfl rfl rfl ?_
  refine ar_h 12 [.ref 21, .ref 20] (ks_43, az_G sa_0, gl, gd) false rfl rfl (ar_hi (n := 184) (by decide) rfl (fun j => rfl) rfl) rfl ?_
  refine ar_h 15 [] (ks_44, az_G sa_0, gl, gd) false rfl rfl (ar_hr rfl rfl (by decide +kernel) rfl rfl) rfl ?_
  exact ar_e rfl rfl rfl rfl rfl (by simp only [am_add]; first | done | rfl)
theorem ct_16 {L : Nat} {xs : Nat → Int32} {tx : Nat → Option String} {gl : Nat → Nat → Int64} {gd : Nat → Nat → UInt64} : ar_R L xs tx 22 am_m_X5_init 0 (am_ini (am_mL am_m_X5_init) [.ref 23, .int (Int32.ofInt 60)]) [] (ks_47, az_G sa_1, gl, gd) false (fun r => r = (.inl none, (ks_49, az_G sa_1, gl, gd), false, 1, 60)) := by
  refine ar_s 1 [some (.ref 23), some (.int (Int32.ofInt 60))] [.ref 23] rfl rfl ?_
  refine ar_h 4 [] (ks_47, az_G sa_1, gl, gd) false rfl rfl rfl rfl ?_
  refine ar_s 5 [some (.ref 23), some (.int (Int32.ofInt 60))] [.ref 23] rfl rfl ?_
  refine ar_s 6 [some (.ref 23), some (.int (Int32.ofInt 60))] [.int (Int32.ofInt 60), .ref 23] rfl rfl ?_
  refine ar_s 7 [some (.ref 23), some (.int (Int32.ofInt 60))] [.int (Int32.ofInt 0), .int (Int32.ofInt 60), .ref 23] rfl rfl ?_
  refine ar_h 10 [.int (Int32.ofInt 60), .ref 23] (ks_47, az_G sa_1, gl, gd) false rfl rfl rfl rfl ?_
  refine ar_h 12 [.ref 24, .ref 23] (ks_48, az_G sa_1, gl, gd) false rfl rfl (ar_hi (n := 60) (by decide) rfl (fun j => rfl) rfl) rfl ?_
  refine ar_h 15 [] (ks_49, az_G sa_1, gl, gd) false rfl rfl (ar_hr rfl rfl (by decide +kernel) rfl rfl) rfl ?_
  exact ar_e rfl rfl rfl rfl rfl (by simp only [am_add]; first | done | rfl)
theorem ct_15 {L : Nat} {xs : Nat → Int32} {tx : Nat → Option String} {gl : Nat → Nat → Int64} {gd : Nat → Nat → UInt64} : ar_R L xs tx 23 am_m_X3_init 0 (am_ini (am_mL am_m_X3_init) [.ref 22, .int (Int32.ofInt 60)]) [] (ks_46, az_G sa_0, gl, gd) false (fun r => r = (.inl none, (ks_50, az_G sa_1, gl, gd), false, 2, 61)) := by
  refine ar_s 1 [some (.ref 22), some (.int (Int32.ofInt 60))] [.ref 22] rfl rfl ?_
  refine ar_h 4 [] (ks_46, az_G sa_0, gl, gd) false rfl rfl rfl rfl ?_
  refine ar_s 5 [some (.ref 22), some (.int (Int32.ofInt 60))] [.ref 22] rfl rfl ?_
  refine ar_s 6 [some (.ref 22), some (.int (Int32.ofInt 60))] [.int (Int32.ofInt 0), .ref 22] rfl rfl ?_
  refine ar_h 9 [] (ks_46, az_G sa_0, gl, gd) false rfl rfl (ar_hu rfl rfl (by decide +kernel) rfl (ar_p0 rfl)) rfl ?_
  refine ar_s 10 [some (.ref 22), some (.int (Int32.ofInt 60))] [.ref 22] rfl rfl ?_
  refine ar_s 11 [some (.ref 22), some (.int (Int32.ofInt 60))] [.int (Int32.ofInt 60), .ref 22] rfl rfl ?_
  refine ar_h 14 [] (ks_46, az_G sa_1, gl, gd) false rfl rfl (ar_hu rfl rfl (by decide +kernel) rfl (az_G_up _ _ _ _).symm) rfl ?_
  refine ar_s 15 [some (.ref 22), some (.int (Int32.ofInt 60))] [.ref 22] rfl rfl ?_
  refine ar_h 18 [.ref 23, .ref 22] (ks_47, az_G sa_1, gl, gd) false rfl rfl (ar_hn rfl rfl (fun j => rfl) rfl rfl) rfl ?_
  refine ar_s 19 [some (.ref 22), some (.int (Int32.ofInt 60))] [.ref 23, .ref 23, .ref 22] rfl rfl ?_
  refine ar_s 20 [some (.ref 22), some (.int (Int32.ofInt 60))] [.int (Int32.ofInt 60), .ref 23, .ref 23, .ref 22] rfl rfl ?_
  refine ar_c (d := 22) 23 (ks_49, az_G sa_1, gl, gd) false rfl rfl rfl rfl rfl ct_16 ?_
  refine ar_h 26 [] (ks_50, az_G sa_1, gl, gd) false rfl rfl (ar_hr rfl rfl (by decide +kernel) rfl rfl) rfl ?_
  exact ar_e rfl rfl rfl rfl rfl (by simp only [am_add]; first | done | rfl)
theorem ct_18 {L : Nat} {xs : Nat → Int32} {tx : Nat → Option String} {gl : Nat → Nat → Int64} {gd : Nat → Nat → UInt64} : ar_R L xs tx 22 am_m_X5_init 0 (am_ini (am_mL am_m_X5_init) [.ref 26, .int (Int32.ofInt 11)]) [] (ks_53, az_G sa_1, gl, gd) false (fun r => r = (.inl none, (ks_55, az_G sa_1, gl, gd), false, 1, 11)) := by
  refine ar_s 1 [some (.ref 26), some (.int (Int32.ofInt 11))] [.ref 26] rfl rfl ?_
  refine ar_h 4 [] (ks_53, az_G sa_1, gl, gd) false rfl rfl rfl rfl ?_
  refine ar_s 5 [some (.ref 26), some (.int (Int32.ofInt 11))] [.ref 26] rfl rfl ?_
  refine ar_s 6 [some (.ref 26), some (.int (Int32.ofInt 11))] [.int (Int32.ofInt 11), .ref 26] rfl rfl ?_
  refine ar_s 7 [some (.ref 26), some (.int (Int32.ofInt 11))] [.int (Int32.ofInt 0), .int (Int32.ofInt 11), .ref 26] rfl rfl ?_
  refine ar_h 10 [.int (Int32.ofInt 11), .ref 26] (ks_53, az_G sa_1, gl, gd) false rfl rfl rfl rfl ?_
  refine ar_h 12 [.ref 27, .ref 26] (ks_54, az_G sa_1, gl, gd) false rfl rfl (ar_hi (n := 11) (by decide) rfl (fun j => rfl) rfl) rfl ?_
  refine ar_h 15 [] (ks_55, az_G sa_1, gl, gd) false rfl rfl (ar_hr rfl rfl (by decide +kernel) rfl rfl) rfl ?_
  exact ar_e rfl rfl rfl rfl rfl (by simp only [am_add]; first | done | rfl)
theorem ct_19 {L : Nat} {xs : Nat → Int32} {tx : Nat → Option String} {gl : Nat → Nat → Int64} {gd : Nat → Nat → UInt64} : ar_R L xs tx 22 am_m_X5_init 0 (am_ini (am_mL am_m_X5_init) [.ref 28, .int (Int32.ofInt 44)]) [] (ks_57, az_G sa_1, gl, gd) false (fun r => r = (.inl none, (ks_59, az_G sa_1, gl, gd), false, 1, 44)) := by
  refine ar_s 1 [some (.ref 28), some (.int (Int32.ofInt 44))] [.ref 28] rfl rfl ?_
  refine ar_h 4 [] (ks_57, az_G sa_1, gl, gd) false rfl rfl rfl rfl ?_
  refine ar_s 5 [some (.ref 28), some (.int (Int32.ofInt 44))] [.ref 28] rfl rfl ?_
  refine ar_s 6 [some (.ref 28), some (.int (Int32.ofInt 44))] [.int (Int32.ofInt 44), .ref 28] rfl rfl ?_
  refine ar_s 7 [some (.ref 28), some (.int (Int32.ofInt 44))] [.int (Int32.ofInt 0), .int (Int32.ofInt 44), .ref 28] rfl rfl ?_
  refine ar_h 10 [.int (Int32.ofInt 44), .ref 28] (ks_57, az_G sa_1, gl, gd) false rfl rfl rfl rfl ?_
  refine ar_h 12 [.ref 29, .ref 28] (ks_58, az_G sa_1, gl, gd) false rfl rfl (ar_hi (n := 44) (by decide) rfl (fun j => rfl) rfl) rfl ?_
  refine ar_h 15 [] (ks_59, az_G sa_1, gl, gd) false rfl rfl (ar_hr rfl rfl (by decide +kernel) rfl rfl) rfl ?_
  exact ar_e rfl rfl rfl rfl rfl (by simp only [am_add]; first | done | rfl)
theorem ct_17 {L : Nat} {xs : Nat → Int32} {tx : Nat → Option String} {gl : Nat → Nat → Int64} {gd : Nat → Nat → UInt64} : ar_R L xs tx 23 am_m_X1_init 0 (am_ini (am_mL am_m_X1_init) [.ref 25, .ref 22]) [] (ks_52, az_G sa_1, gl, gd) false (fun r => r = (.inl none, (ks_61, az_G sa_1, gl, gd), false, 4, 57)) := by
  refine ar_s 1 [some (.ref 25), some (.ref 22)] [.ref 25] rfl rfl ?_
  refine ar_h 4 [] (ks_52, az_G sa_1, gl, gd) false rfl rfl rfl rfl ?_
  refine ar_s 5 [some (.ref 25), some (.ref 22)] [.ref 25] rfl rfl ?_
  refine ar_h 8 [.ref 26, .ref 25] (ks_53, az_G sa_1, gl, gd) false rfl rfl (ar_hn rfl rfl (fun j => rfl) rfl rfl) rfl ?_
  refine ar_s 9 [some (.ref 25), some (.ref 22)] [.ref 26, .ref 26, .ref 25] rfl rfl ?_
  refine ar_s 11 [some (.ref 25), some (.ref 22)] [.int (Int32.ofInt 11), .ref 26, .ref 26, .ref 25] rfl rfl ?_
  refine ar_c (d := 22) 14 (ks_55, az_G sa_1, gl, gd) false rfl rfl rfl rfl rfl ct_18 ?_
  refine ar_h 17 [] (ks_56, az_G sa_1, gl, gd) false rfl rfl (ar_hr rfl rfl (by decide +kernel) rfl rfl) rfl ?_
  refine ar_s 18 [some (.ref 25), some (.ref 22)] [.ref 25] rfl rfl ?_
  refine ar_h 21 [.ref 28, .ref 25] (ks_57, az_G sa_1, gl, gd) false rfl rfl (ar_hn rfl rfl (fun j => rfl) rfl rfl) rfl ?_
  refine ar_s 22 [some (.ref 25), some (.ref 22)] [.ref 28, .ref 28, .ref 25] rfl rfl ?_
  refine ar_s 24 [some (.ref 25), some (.ref 22)] [.int (Int32.ofInt 44), .ref 28, .ref 28, .ref 25] rfl rfl ?_
  refine ar_c (d := 22) 27 (ks_59, az_G sa_1, gl, gd) false rfl rfl rfl rfl rfl ct_19 ?_
  refine ar_h 30 [] (ks_60, az_G sa_1, gl, gd) false rfl rfl (ar_hr rfl rfl (by decide +kernel) rfl rfl) rfl ?_
  refine ar_s 31 [some (.ref 25), some (.ref 22)] [.ref 25] rfl rfl ?_
  refine ar_s 32 [some (.ref 25), some (.ref 22)] [.int (Int32.ofInt 0), .ref 25] rfl rfl ?_
  refine ar_h 35 [] (ks_60, az_G sa_1, gl, gd) false rfl rfl (ar_hu rfl rfl (by decide +kernel) rfl (ar_p0 rfl)) rfl ?_
  refine ar_s 36 [some (.ref 25), some (.ref 22)] [.ref 25] rfl rfl ?_
  refine ar_s 37 [some (.ref 25), some (.ref 22)] [.int (Int32.ofInt 0), .ref 25] rfl rfl ?_
  refine ar_h 40 [] (ks_60, az_G sa_1, gl, gd) false rfl rfl (ar_hu rfl rfl (by decide +kernel) rfl (ar_p0 rfl)) rfl ?_
  refine ar_s 41 [some (.ref 25), some (.ref 22)] [.ref 25] rfl rfl ?_
  refine ar_s 42 [some (.ref 25), some (.ref 22)] [.int (Int32.ofInt 0), .ref 25] rfl rfl ?_
  refine ar_h 45 [] (ks_60, az_G sa_1, gl, gd) false rfl rfl (ar_hu rfl rfl (by decide +kernel) rfl (ar_p0 rfl)) rfl ?_
  refine ar_s 46 [some (.ref 25), some (.ref 22)] [.ref 25] rfl rfl ?_
  refine ar_s 47 [some (.ref 25), some (.ref 22)] [.ref 22, .ref 25] rfl rfl ?_
  refine ar_h 50 [] (ks_61, az_G sa_1, gl, gd) false rfl rfl (ar_hr rfl rfl (by decide +kernel) rfl rfl) rfl ?_
  exact ar_e rfl rfl rfl rfl rfl (by simp only [am_add]; first | done | rfl)
theorem ct_21 {L : Nat} {xs : Nat → Int32} {tx : Nat → Option String} {gl : Nat → Nat → Int64} {gd : Nat → Nat → UInt64} : ar_R L xs tx 22 am_m_X5_init 0 (am_ini (am_mL am_m_X5_init) [.ref 31, .int (Int32.ofInt 16)]) [] (ks_64, az_G sa_2, gl, gd) false (fun r => r = (.inl none, (ks_66, az_G sa_2, gl, gd), false, 1, 16)) := by
  refine ar_s 1 [some (.ref 31), some (.int (Int32.ofInt 16))] [.ref 31] rfl rfl ?_
  refine ar_h 4 [] (ks_64, az_G sa_2, gl, gd) false rfl rfl rfl rfl ?_
  refine ar_s 5 [some (.ref 31), some (.int (Int32.ofInt 16))] [.ref 31] rfl rfl ?_
  refine ar_s 6 [some (.ref 31), some (.int (Int32.ofInt 16))] [.int (Int32.ofInt 16), .ref 31] rfl rfl ?_
  refine ar_s 7 [some (.ref 31), some (.int (Int32.ofInt 16))] [.int (Int32.ofInt 0), .int (Int32.ofInt 16), .ref 31] rfl rfl ?_
  refine ar_h 10 [.int (Int32.ofInt 16), .ref 31] (ks_64, az_G sa_2, gl, gd) false rfl rfl rfl rfl ?_
  refine ar_h 12 [.ref 32, .ref 31] (ks_65, az_G sa_2, gl, gd) false rfl rfl (ar_hi (n := 16) (by decide) rfl (fun j => rfl) rfl) rfl ?_
  refine ar_h 15 [] (ks_66, az_G sa_2, gl, gd) false rfl rfl (ar_hr rfl rfl (by decide +kernel) rfl rfl) rfl ?_
  exact ar_e rfl rfl rfl rfl rfl (by simp only [am_add]; first | done | rfl)
theorem ct_20 {L : Nat} {xs : Nat → Int32} {tx : Nat → Option String} {gl : Nat → Nat → Int64} {gd : Nat → Nat → UInt64} : ar_R L xs tx 23 am_m_X3_init 0 (am_ini (am_mL am_m_X3_init) [.ref 30, .int (Int32.ofInt 16)]) [] (ks_63, az_G sa_1, gl, gd) false (fun r => r = (.inl none, (ks_67, az_G sa_2, gl, gd), false, 2, 17)) := by
  refine ar_s 1 [some (.ref 30), some (.int (Int32.ofInt 16))] [.ref 30] rfl rfl ?_
  refine ar_h 4 [] (ks_63, az_G sa_1, gl, gd) false rfl rfl rfl rfl ?_
  refine ar_s 5 [some (.ref 30), some (.int (Int32.ofInt 16))] [.ref 30] rfl rfl ?_
  refine ar_s 6 [some (.ref 30), some (.int (Int32.ofInt 16))] [.int (Int32.ofInt 0), .ref 30] rfl rfl ?_
  refine ar_h 9 [] (ks_63, az_G sa_1, gl, gd) false rfl rfl (ar_hu rfl rfl (by decide +kernel) rfl (ar_p0 rfl)) rfl ?_
  refine ar_s 10 [some (.ref 30), some (.int (Int32.ofInt 16))] [.ref 30] rfl rfl ?_
  refine ar_s 11 [some (.ref 30), some (.int (Int32.ofInt 16))] [.int (Int32.ofInt 16), .ref 30] rfl rfl ?_
  refine ar_h 14 [] (ks_63, az_G sa_2, gl, gd) false rfl rfl (ar_hu rfl rfl (by decide +kernel) rfl (az_G_up _ _ _ _).symm) rfl ?_
  refine ar_s 15 [some (.ref 30), some (.int (Int32.ofInt 16))] [.ref 30] rfl rfl ?_
  refine ar_h 18 [.ref 31, .ref 30] (ks_64, az_G sa_2, gl, gd) false rfl rfl (ar_hn rfl rfl (fun j => rfl) rfl rfl) rfl ?_
  refine ar_s 19 [some (.ref 30), some (.int (Int32.ofInt 16))] [.ref 31, .ref 31, .ref 30] rfl rfl ?_
  refine ar_s 20 [some (.ref 30), some (.int (Int32.ofInt 16))] [.int (Int32.ofInt 16), .ref 31, .ref 31, .ref 30] rfl rfl ?_
  refine ar_c (d := 22) 23 (ks_66, az_G sa_2, gl, gd) false rfl rfl rfl rfl rfl ct_21 ?_
  refine ar_h 26 [] (ks_67, az_G sa_2, gl, gd) false rfl rfl (ar_hr rfl rfl (by decide +kernel) rfl rfl) rfl ?_
  exact ar_e rfl rfl rfl rfl rfl (by simp only [am_add]; first | done | rfl)
theorem ct_22 {L : Nat} {xs : Nat → Int32} {tx : Nat → Option String} {gl : Nat → Nat → Int64} {gd : Nat → Nat → UInt64} : ar_R L xs tx 23 am_m_X4_init 0 (am_ini (am_mL am_m_X4_init) [.ref 33]) [] (ks_69, az_G sa_2, gl, gd) false (fun r => r = (.inl none, (ks_69, az_G sa_2, gl, gd), false, 0, 0)) := by
  refine ar_s 1 [some (.ref 33)] [.ref 33] rfl rfl ?_
  refine ar_h 4 [] (ks_69, az_G sa_2, gl, gd) false rfl rfl rfl rfl ?_
  refine ar_s 5 [some (.ref 33)] [.ref 33] rfl rfl ?_
  refine ar_s 6 [some (.ref 33)] [.int (Int32.ofInt 0), .ref 33] rfl rfl ?_
  refine ar_h 9 [] (ks_69, az_G sa_2, gl, gd) false rfl rfl (ar_hu rfl rfl (by decide +kernel) rfl (ar_p0 rfl)) rfl ?_
  refine ar_s 10 [some (.ref 33)] [.ref 33] rfl rfl ?_
  refine ar_s 11 [some (.ref 33)] [.int (Int32.ofInt 0), .ref 33] rfl rfl ?_
  refine ar_h 14 [] (ks_69, az_G sa_2, gl, gd) false rfl rfl (ar_hu rfl rfl (by decide +kernel) rfl (ar_p0 rfl)) rfl ?_
  refine ar_s 15 [some (.ref 33)] [.ref 33] rfl rfl ?_
  refine ar_s 16 [some (.ref 33)] [.int (Int32.ofInt 0), .ref 33] rfl rfl ?_
  refine ar_h 19 [] (ks_69, az_G sa_2, gl, gd) false rfl rfl (ar_hu rfl rfl (by decide +kernel) rfl (ar_p0 rfl)) rfl ?_
  refine ar_s 20 [some (.ref 33)] [.ref 33] rfl rfl ?_
  refine ar_s 21 [some (.ref 33)] [.int (Int32.ofInt 0), .ref 33] rfl rfl ?_
  refine ar_h 24 [] (ks_69, az_G sa_2, gl, gd) false rfl rfl (ar_hu rfl rfl (by decide +kernel) rfl (ar_p0 rfl)) rfl ?_
  exact ar_e rfl rfl rfl rfl rfl (by simp only [am_add]; first | done | rfl)
theorem ct_1 {L : Nat} {xs : Nat → Int32} {tx : Nat → Option String} {gl : Nat → Nat → Int64} {gd : Nat → Nat → UInt64} : ar_R L xs tx 24 am_m_X9_init 0 (am_ini (am_mL am_m_X9_init) [.ref 0]) [] (ks_1, az_G sa_0, gl, gd) false (fun r => r = (.inl none, (ks_70, az_G sa_3, gl, gd), false, 33, 2233)) := by
  refine ar_s 1 [some (.ref 0)] [.ref 0] rfl rfl ?_
  refine ar_h 4 [] (ks_1, az_G sa_0, gl, gd) false rfl rfl rfl rfl ?_
  refine ar_s 5 [some (.ref 0)] [.ref 0] rfl rfl ?_
  refine ar_h 8 [.ref 1, .ref 0] (ks_2, az_G sa_0, gl, gd) false rfl rfl (ar_hn rfl rfl (fun j => rfl) rfl rfl) rfl ?_
  refine ar_s 9 [some (.ref 0)] [.ref 1, .ref 1, .ref 0] rfl rfl ?_
  refine ar_c (d := 23) 12 (ks_6, az_G sa_0, gl, gd) false rfl rfl rfl rfl rfl ct_2 ?_
  refine ar_h 15 [] (ks_7, az_G sa_0, gl, gd) false rfl rfl (ar_hr rfl rfl (by decide +kernel) rfl rfl) rfl ?_
  refine ar_s 16 [some (.ref 0)] [.ref 0] rfl rfl ?_
  refine ar_h 19 [.ref 4, .ref 0] (ks_8, az_G sa_0, gl, gd) false rfl rfl (ar_hn rfl rfl (fun j => rfl) rfl rfl) rfl ?_
  refine ar_s 20 [some (.ref 0)] [.ref 4, .ref 4, .ref 0] rfl rfl ?_
  refine ar_s 21 [some (.ref 0)] [.ref 0, .ref 4, .ref 4, .ref 0] rfl rfl ?_
  refine ar_h 24 [.ref 1, .ref 4, .ref 4, .ref 0] (ks_8, az_G sa_0, gl, gd) false rfl rfl rfl rfl ?_
  refine ar_c (d := 23) 27 (ks_11, az_G sa_0, gl, gd) false rfl rfl rfl rfl rfl ct_4 ?_
  refine ar_h 30 [] (ks_12, az_G sa_0, gl, gd) false rfl rfl (ar_hr rfl rfl (by decide +kernel) rfl rfl) rfl ?_
  refine ar_s 31 [some (.ref 0)] [.ref 0] rfl rfl ?_
  refine ar_h 34 [.ref 6, .ref 0] (ks_13, az_G sa_0, gl, gd) false rfl rfl (ar_hn rfl rfl (fun j => rfl) rfl rfl) rfl ?_
  refine ar_s 35 [some (.ref 0)] [.ref 6, .ref 6, .ref 0] rfl rfl ?_
  refine ar_s 36 [some (.ref 0)] [.ref 0, .ref 6, .ref 6, .ref 0] rfl rfl ?_
  refine ar_h 39 [.ref 1, .ref 6, .ref 6, .ref 0] (ks_13, az_G sa_0, gl, gd) false rfl rfl rfl rfl ?_
  refine ar_c (d := 23) 42 (ks_34, az_G sa_0, gl, gd) false rfl rfl rfl rfl rfl ct_6 ?_
  refine ar_h 45 [] (ks_35, az_G sa_0, gl, gd) false rfl rfl (ar_hr rfl rfl (by decide +kernel) rfl rfl) rfl ?_
  refine ar_s 46 [some (.ref 0)] [.ref 0] rfl rfl ?_
  refine ar_h 49 [.ref 17, .ref 0] (ks_36, az_G sa_0, gl, gd) false rfl rfl (ar_hn rfl rfl (fun j => rfl) rfl rfl) rfl ?_
  refine ar_s 50 [some (.ref 0)] [.ref 17, .ref 17, .ref 0] rfl rfl ?_
  refine ar_c (d := 23) 53 (ks_40, az_G sa_0, gl, gd) false rfl rfl rfl rfl rfl ct_12 ?_
  refine ar_h 56 [] (ks_41, az_G sa_0, gl, gd) false rfl rfl (ar_hr rfl rfl (by decide +kernel) rfl rfl) rfl ?_
  refine ar_s 57 [some (.ref 0)] [.ref 0] rfl rfl ?_
  refine ar_h 60 [.ref 20, .ref 0] (ks_42, az_G sa_0, gl, gd) false rfl rfl (ar_hn rfl rfl (fun j => rfl) rfl rfl) rfl ?_
  refine ar_s 61 [some (.ref 0)] [.ref 20, .ref 20, .ref 0] rfl rfl ?_
  refine ar_s 64 [some (.ref 0)] [.int (Int32.ofInt 184), .ref 20, .ref 20, .ref 0] rfl rfl ?_
  refine ar_c (d := 23) 67 (ks_44, az_G sa_0, gl, gd) false rfl rfl rfl rfl rfl ct_14 ?_
  refine ar_h 70 [] (ks_45, az_G sa_0, gl, gd) false rfl rfl (ar_hr rfl rfl (by decide +kernel) rfl rfl) rfl ?_
  refine ar_s 71 [some (.ref 0)] [.ref 0] rfl rfl ?_
  refine ar_s 72 [some (.ref 0)] [.int (Int32.ofInt 0), .ref 0] rfl rfl ?_
  refine ar_h 75 [] (ks_45, az_G sa_0, gl, gd) false rfl rfl (ar_hu rfl rfl (by decide +kernel) rfl (ar_p0 rfl)) rfl ?_
  refine ar_s 76 [some (.ref 0)] [.ref 0] rfl rfl ?_
  refine ar_h 79 [.ref 22, .ref 0] (ks_46, az_G sa_0, gl, gd) false rfl rfl (ar_hn rfl rfl (fun j => rfl) rfl rfl) rfl ?_
  refine ar_s 80 [some (.ref 0)] [.ref 22, .ref 22, .ref 0] rfl rfl ?_
  refine ar_s 82 [some (.ref 0)] [.int (Int32.ofInt 60), .ref 22, .ref 22, .ref 0] rfl rfl ?_
  refine ar_c (d := 23) 85 (ks_50, az_G sa_1, gl, gd) false rfl rfl rfl rfl rfl ct_15 ?_
  refine ar_h 88 [] (ks_51, az_G sa_1, gl, gd) false rfl rfl (ar_hr rfl rfl (by decide +kernel) rfl rfl) rfl ?_
  refine ar_s 89 [some (.ref 0)] [.ref 0] rfl rfl ?_
  refine ar_h 92 [.ref 25, .ref 0] (ks_52, az_G sa_1, gl, gd) false rfl rfl (ar_hn rfl rfl (fun j => rfl) rfl rfl) rfl ?_
  refine ar_s 93 [some (.ref 0)] [.ref 25, .ref 25, .ref 0] rfl rfl ?_
  refine ar_s 94 [some (.ref 0)] [.ref 0, .ref 25, .ref 25, .ref 0] rfl rfl ?_
  refine ar_h 97 [.ref 22, .ref 25, .ref 25, .ref 0] (ks_52, az_G sa_1, gl, gd) false rfl rfl rfl rfl ?_
  refine ar_c (d := 23) 100 (ks_61, az_G sa_1, gl, gd) false rfl rfl rfl rfl rfl ct_17 ?_
  refine ar_h 103 [] (ks_62, az_G sa_1, gl, gd) false rfl rfl (ar_hr rfl rfl (by decide +kernel) rfl rfl) rfl ?_
  refine ar_s 104 [some (.ref 0)] [.ref 0] rfl rfl ?_
  refine ar_h 107 [.ref 30, .ref 0] (ks_63, az_G sa_1, gl, gd) false rfl rfl (ar_hn rfl rfl (fun j => rfl) rfl rfl) rfl ?_
  refine ar_s 108 [some (.ref 0)] [.ref 30, .ref 30, .ref 0] rfl rfl ?_
  refine ar_s 110 [some (.ref 0)] [.int (Int32.ofInt 16), .ref 30, .ref 30, .ref 0] rfl rfl ?_
  refine ar_c (d := 23) 113 (ks_67, az_G sa_2, gl, gd) false rfl rfl rfl rfl rfl ct_20 ?_
  refine ar_h 116 [] (ks_68, az_G sa_2, gl, gd) false rfl rfl (ar_hr rfl rfl (by decide +kernel) rfl rfl) rfl ?_
  refine ar_s 117 [some (.ref 0)] [.ref 0] rfl rfl ?_
  refine ar_h 120 [.ref 33, .ref 0] (ks_69, az_G sa_2, gl, gd) false rfl rfl (ar_hn rfl rfl (fun j => rfl) rfl rfl) rfl ?_
  refine ar_s 121 [some (.ref 0)] [.ref 33, .ref 33, .ref 0] rfl rfl ?_
  refine ar_c (d := 23) 124 (ks_69, az_G sa_2, gl, gd) false rfl rfl rfl rfl rfl ct_22 ?_
  refine ar_h 127 [] (ks_70, az_G sa_2, gl, gd) false rfl rfl (ar_hr rfl rfl (by decide +kernel) rfl rfl) rfl ?_
  refine ar_s 128 [some (.ref 0)] [.ref 0] rfl rfl ?_
  refine ar_s 129 [some (.ref 0)] [.int (Int32.ofInt (-1)), .ref 0] rfl rfl ?_
  refine ar_h 132 [] (ks_70, az_G sa_3, gl, gd) false rfl rfl (ar_hu rfl rfl (by decide +kernel) rfl (az_G_up _ _ _ _).symm) rfl ?_
  exact ar_e rfl rfl rfl rfl rfl (by simp only [am_add]; first | done | rfl)
set_option maxRecDepth 100000 in
/-- begun, from nothing -/
theorem begun_run {L : Nat} {xs : Nat → Int32} {tx : Nat → Option String} (htx : ∀ i t, am_sx[i]? = some t → tx i = some t) (hL : L < 2147483648) : ∃ n e2 t c k, am_run L xs n tx 25 am_m_L_begun 0 (am_ini (am_mL am_m_L_begun) [.retAddr 0]) [] (ks_0, az_G sa_0, bz_g, bz_d) false = some (.inl (some (.ref 0)), (az_KE e2, az_G t, bz_g, bz_d), false, c, k) ∧ c ≤ 1000 ∧ k ≤ 100000 ∧ ∃ (S2 : zR) (h2 c2 : Nat) (G2 : Nat → zR), zkS t S2 h2 c2 G2 ∧ h2 ≤ 100 ∧ 1 ≤ zn S2 0 := by
  have key : ar_R L xs tx 25 am_m_L_begun 0 (am_ini (am_mL am_m_L_begun) [.retAddr 0]) [] (ks_0, az_G sa_0, bz_g, bz_d) false (fun r => ∃ e2 t, r.1 = .inl (some (.ref 0)) ∧ r.2.1 = (az_KE e2, az_G t, bz_g, bz_d) ∧ r.2.2.1 = false ∧ r.2.2.2.1 ≤ 1000 ∧ r.2.2.2.2 ≤ 100000 ∧ ∃ (S2 : zR) (h2 c2 : Nat) (G2 : Nat → zR), zkS t S2 h2 c2 G2 ∧ h2 ≤ 100 ∧ 1 ≤ zn S2 0) := by
    show ar_R L xs tx (24 + 1) am_m_L_begun 0 _ _ _ false _
    refine ar_h 3 [.ref 0] (ks_1, az_G sa_0, bz_g, bz_d) false rfl rfl (ar_hn rfl rfl (fun j => rfl) rfl rfl) rfl ?_
    refine ar_s 4 [some (.retAddr 0), none, none, none] [.ref 0, .ref 0] rfl rfl ?_
    refine ar_c (d := 24) 7 (ks_70, az_G sa_3, bz_g, bz_d) false rfl rfl rfl rfl rfl ct_1 ?_
    refine ar_s 8 [some (.retAddr 0), some (.ref 0), none, none] [] rfl rfl ?_
    obtain ⟨n, o, e2, t, c, k, e1, e3, e4, e5, e6, e7⟩ := lg_8 (xs := xs) htx (d := 25) (by decide) hL (e := []) (N := 50) (M := 300) zkS_0 (by decide) (by decide)
    subst e5
    refine ⟨n, _, e1, e2, t, rfl, rfl, rfl, ?_, ?_, e7⟩
    · simp only [am_add]
      omega
    · simp only [am_add, show am_N 9 = 11 from rfl]
      omega
  obtain ⟨n, r, e1, e2, t, a1, a2, a3, a4, a5, a6⟩ := key
  obtain ⟨r1, r2, r3, r4, r5⟩ := r
  dsimp only at a1 a2 a3 a4 a5
  subst a1 a2 a3
  exact ⟨n, e2, t, r4, r5, e1, a4, a5, a6⟩
/-- the law, from its first row -/
theorem law_run {L : Nat} {xs : Nat → Int32} {tx : Nat → Option String} (htx : ∀ i t, am_sx[i]? = some t → tx i = some t) (hL : L < 2147483648) : ar_R L xs tx 26 am_m_L_law 0 (am_ini (am_mL am_m_L_law) [.retAddr 0]) [] (ks_0, az_G sa_0, bz_g, bz_d) false (fun r => r.1 = .inl (some (.int 1)) ∧ r.2.2.1 = false ∧ r.2.2.2.1 ≤ 5000 ∧ r.2.2.2.2 ≤ 200000) := by
  obtain ⟨n, e2, t, c, k, e1, e3, e4, S2, h2, c2, G2, H, e5, e6⟩ := begun_run (xs := xs) htx hL
  refine ar_s 1 [some (.retAddr 0), none, none, none, none] [.retAddr 0] rfl rfl ?_
  refine ar_c (d := 25) (v := some (.ref 0)) 4 (az_KE e2, az_G t, bz_g, bz_d) false rfl rfl rfl rfl rfl ⟨n, _, e1, rfl⟩ ?_
  obtain ⟨n2, o, e8, t2, c3, k3, f1, f2, f3, f4⟩ := lr_4 (xs := xs) htx (d := 26) (by decide) hL (e := e2) (N := 3000) (M := 60000) H (by omega) e6 (by decide) (by decide)
  subst f4
  refine ⟨n2, _, f1, rfl, rfl, ?_, ?_⟩
  · simp only [am_add]
    omega
  · simp only [am_add]
    omega
