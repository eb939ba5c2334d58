/-! REFERENCE, 3: ways; written by program (wip/tools/zg/r3.py) -/
/-- the land on which another hangs, as the reference looks for it: bridge by bridge, the lowest -/
def zh6 (S : zR) (D : Nat → Int) (v : Nat) (k : Nat) (x : Int) : Prop :=
  (x = 6 ∧ ∀ j u, j < k → zac S j v = ((u : Nat) : Int) → D u + ztk S j ≠ D v) ∨ ∃ u j, x = ((u : Nat) : Int) ∧ u < 6 ∧ j < k ∧ zac S j v = ((u : Nat) : Int) ∧ D u + ztk S j = D v ∧ ∀ j2 u2, j2 < k → zac S j2 v = ((u2 : Nat) : Int) → D u2 + ztk S j2 = D v → u ≤ u2
theorem zac_sym {S : zR} {h : Nat} (hI : zInv S h) (hh : h ≤ 10000) {b u v : Nat} (hb : b < zn S 0) (hu : u < 6) (hv : v < 6) : zac S b u = ((v : Nat) : Int) ↔ zac S b v = ((u : Nat) : Int) := by
  have h1 := zI_b hI hh hb
  unfold zac
  constructor
  · intro q
    split at q
    · rw [if_neg (by omega), if_pos (by omega)]; omega
    · split at q
      · rw [if_pos (by omega)]; omega
      · omega
  · intro q
    split at q
    · rw [if_neg (by omega), if_pos (by omega)]; omega
    · split at q
      · rw [if_pos (by omega)]; omega
      · omega
theorem zln_1 (S : zR) (b : Nat) : zln S 1 b = ztk S b := rfl
/-- both ways of looking find the same land, where there is a way -/
theorem zhg_eq {S : zR} {h : Nat} (hI : zInv S h) (hh : h ≤ 10000) {f : Nat} (hf : f < 6) {D : Nat → Int} (hD : zgd S 1 f 9999 D) (h0 : ∃ E, zgd S 1 f 1000 E) {v : Nat} (hv : v < 6) (hr : D v ≠ 9999) {x : Int} (hx : zh6 S D v (zn S 0) x) : (if x = 6 then -1 else x) = zhg S f v := by
  have rv := zdi_r hI hh hf (by omega) hD h0 hv
  have rt : ∀ u j, u < 6 → j < zn S 0 → (D u + ztk S j = D v ↔ zdi S 1 f u + ztk S j = zdi S 1 f v) := fun u j hu hj => by
    have ru := zdi_r hI hh hf (by omega) hD h0 hu
    have hk := ztk_r hI hh hj
    omega
  have hac : ∀ j u : Nat, j < zn S 0 → zac S j v = ((u : Nat) : Int) → u < 6 := fun j u hj q => by
    have := (zac_ed hI hh hj hv).2.2
    omega
  have hlf : ∀ u, u < 6 → (0 ≤ zlf S f u v ↔ ∃ j, j < zn S 0 ∧ D u + ztk S j = D v ∧ zac S j v = ((u : Nat) : Int)) := fun u hu => by
    constructor
    · intro q
      have q1 := zf_some _ _ q
      have q2 := zf_lt (fun b => decide (zdi S 1 f u + ztk S b = zdi S 1 f v ∧ zac S b u = ((v : Nat) : Int))) (zn S 0)
      rw [decide_eq_true_eq] at q1
      unfold zlf at q
      have hj : (zlf S f u v).toNat < zn S 0 := by unfold zlf; omega
      exact ⟨(zlf S f u v).toNat, hj, (rt u _ hu hj).mpr q1.1, (zac_sym hI hh hj hu hv).mp q1.2⟩
    · intro ⟨j, hj, q1, q2⟩
      by_cases q : 0 ≤ zlf S f u v
      · exact q
      · exfalso
        have := zf_none' q j hj
        rw [decide_eq_false_iff_not] at this
        exact this ⟨(rt u j hu hj).mp q1, (zac_sym hI hh hj hu hv).mpr q2⟩
  rcases hx with ⟨rfl, hx⟩ | ⟨u, j, rfl, hu, hj, q1, q2, hx⟩
  · rw [if_pos rfl]
    refine (zf_none _ _ (fun i hi => ?_)).symm
    rw [decide_eq_false_iff_not, hlf i hi]
    intro ⟨j, hj, q1, q2⟩
    exact hx j i hj q2 q1
  · rw [if_neg (by omega)]
    refine (zf_first _ _ u hu ?_ (fun i hi => ?_)).symm
    · rw [decide_eq_true_eq, hlf u hu]
      exact ⟨j, hj, q2, q1⟩
    · rw [decide_eq_false_iff_not, hlf i (by omega)]
      intro ⟨j2, hj2, q3, q4⟩
      have := hx j2 i hj2 q4 q3
      omega
