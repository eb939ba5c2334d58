/-! REFERENCE, 2: the commands; written by program (wip/tools/zg/r2.py) -/
/-- what became of a command in the reference; w: how it tells 'out of range' -/
def zth (c : Nat) (w : Int) : Int := if c = 3 then 9 else if c = 2 then w else c
def zMo (s t : az_S) (r : zQ) (w : Int) : Prop :=
  t 35 = r.2.2.2 ∧ t 34 6 = zth r.1 w ∧ (r.1 = 3 → t 34 7 = r.2.1 ∧ t 34 8 = r.2.2.1 ∧ t 34 9 = 0) ∧ (r.1 ≠ 3 → t 34 7 = s 34 7 ∧ t 34 8 = s 34 8 ∧ t 34 9 = s 34 9) ∧ (∀ j, j ≠ 6 → j ≠ 7 → j ≠ 8 → j ≠ 9 → t 34 j = s 34 j) ∧ (∀ i, i ≠ 34 → i ≠ 35 → t i = s i)
abbrev zMq (s : az_S) (r : zQ) (w : Int) : az_O → az_S → Prop := fun o t => o = .inl (some (az_i (if r.1 = 0 then r.2.1 else 0))) ∧ zMo s t r w
def zzk (S : zR) (n k : Nat) : zR := fun j => if 6 + 12 * n ≤ j ∧ j < 6 + 12 * n + k then 0 else S j
theorem zzk_0 (S : zR) (n : Nat) : zzk S n 0 = S := by
  funext j
  exact if_neg (by omega)
theorem zzk_s (S : zR) (n k : Nat) : zup (zzk S n k) (6 + 12 * n + k) 0 = zzk S n (k + 1) := by
  funext j
  unfold zup zzk
  by_cases q : j = 6 + 12 * n + k
  · rw [if_pos q, if_pos (by omega)]
  · rw [if_neg q]
    by_cases q2 : 6 + 12 * n ≤ j ∧ j < 6 + 12 * n + k
    · rw [if_pos q2, if_pos (by omega)]
    · rw [if_neg q2, if_neg (by omega)]
theorem zhl_d {S : zR} {h : Nat} (hI : zInv S h) (hh : h ≤ 10000) {n : Int} (hn : 1 ≤ n ∧ n ≤ 48) : zhl S - zhl (zup S 3 (S 3 + n)) = zcr S n := by
  have hz := zI_h hI hh
  have e1 : zn (zup S 3 (S 3 + n)) 1 = zn S 1 := zn_up (by omega)
  have key : ∀ m, m ≤ zn S 1 → zs m (fun t => az_b (S 3 < zT S t 3)) - zs m (fun t => az_b (zup S 3 (S 3 + n) 3 < zT (zup S 3 (S 3 + n)) t 3)) = zs m (fun t => az_b (1 ≤ zrh S t ∧ zrh S t ≤ n)) := by
    intro m
    induction m with
    | zero => intro _; rfl
    | succ m ih =>
      intro hm
      have := ih (by omega)
      have e2 : zT (zup S 3 (S 3 + n)) m 3 = zT S m 3 := zup_ne _ _ (by omega)
      have e3 : zup S 3 (S 3 + n) 3 = S 3 + n := zup_eq _ _ _
      have hd := zrh_d (S := S) (t := m)
      have k1 : az_b (S 3 < zT S m 3) - az_b (zup S 3 (S 3 + n) 3 < zT (zup S 3 (S 3 + n)) m 3) = az_b (1 ≤ zrh S m ∧ zrh S m ≤ n) := by
        rw [e2, e3]
        by_cases q : S 3 < zT S m 3
        · have := hd.1 q
          rw [az_b1 q]
          by_cases q2 : S 3 + n < zT S m 3
          · rw [az_b1 q2, az_b0 (by omega)]; rfl
          · rw [az_b0 q2, az_b1 (by omega)]; rfl
        · have := hd.2 q
          rw [az_b0 q, az_b0 (by omega), az_b0 (by omega)]; rfl
      simp only [zs]
      omega
  unfold zhl zcr
  rw [e1]
  exact key _ (Nat.le_refl _)
