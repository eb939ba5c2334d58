/-! REFERENCE, 5: the questions of its face; written by program (wip/tools/zg/r5.py) -/
/-- a question leaves all but what was thrown, and the row of the ways -/
def zFm (s t : az_S) (k : Nat) : Prop := t 34 6 = k ∧ (∀ j, j ≠ 6 → t 34 j = s 34 j) ∧ ∀ i, i ≠ 34 → i ≠ 39 → t i = s i
abbrev zmq (s : az_S) (r : Nat × Int) : az_O → az_S → Prop := fun o t => o = .inl (some (az_i (if r.1 = 0 then r.2 else 0))) ∧ zFm s t r.1
theorem zh6_0 {S : zR} {D : Nat → Int} {v : Nat} : zh6 S D v 0 6 := Or.inl ⟨rfl, fun j u hj => absurd hj (by omega)⟩
theorem zh6_no {S : zR} {D : Nat → Int} {v k : Nat} {x : Int} (h : zh6 S D v k x) (hn : ∀ u : Nat, zac S k v = ((u : Nat) : Int) → D u + ztk S k ≠ D v) : zh6 S D v (k + 1) x := by
  rcases h with ⟨h1, h2⟩ | ⟨u, j, h1, h2, h3, h4, h5, h6⟩
  · refine Or.inl ⟨h1, fun j u hj hz => ?_⟩
    by_cases q : j = k
    · subst q; exact hn u hz
    · exact h2 j u (by omega) hz
  · refine Or.inr ⟨u, j, h1, h2, by omega, h4, h5, fun j2 u2 hj hz hd => ?_⟩
    by_cases q : j2 = k
    · subst q; exact absurd hd (hn u2 hz)
    · exact h6 j2 u2 (by omega) hz hd
theorem zh6_yes {S : zR} {D : Nat → Int} {v k w : Nat} {x : Int} (h : zh6 S D v k x) (hw : w < 6) (hz : zac S k v = ((w : Nat) : Int)) (hd : D w + ztk S k = D v) : zh6 S D v (k + 1) (if x < ((w : Nat) : Int) then x else ((w : Nat) : Int)) := by
  right
  rcases h with ⟨h1, h2⟩ | ⟨u, j, h1, h2, h3, h4, h5, h6⟩
  · refine ⟨w, k, by rw [if_neg (by omega)], hw, by omega, hz, hd, fun j2 u2 hj hz2 hd2 => ?_⟩
    by_cases q : j2 = k
    · subst q; omega
    · exact absurd hd2 (h2 j2 u2 (by omega) hz2)
  · by_cases q9 : x < ((w : Nat) : Int)
    · refine ⟨u, j, by rw [if_pos q9]; exact h1, h2, by omega, h4, h5, fun j2 u2 hj hz2 hd2 => ?_⟩
      by_cases q : j2 = k
      · subst q; omega
      · exact h6 j2 u2 (by omega) hz2 hd2
    · refine ⟨w, k, by rw [if_neg q9], hw, by omega, hz, hd, fun j2 u2 hj hz2 hd2 => ?_⟩
      by_cases q : j2 = k
      · subst q; omega
      · have := h6 j2 u2 (by omega) hz2 hd2; omega
theorem zac_of {S : zR} {h : Nat} (hI : zInv S h) (hh : h ≤ 10000) {k v : Nat} (hk : k < zn S 0) : ((zB S k 0 = v ∨ zB S k 1 = v) → zac S k v = zB S k 0 + zB S k 1 - v) ∧ (¬ (zB S k 0 = v ∨ zB S k 1 = v) → zac S k v = -1) := by
  have h1 := zI_b hI hh hk
  unfold zac
  constructor
  · intro q
    split
    · omega
    · rw [if_pos (by omega)]; omega
  · intro q
    rw [if_neg (by omega), if_neg (by omega)]
/-- the least lengths are there -/
theorem zgd_ex {s : az_S} {S : zR} {h : Nat} (hR : zRel (s 3) S) (hI : zInv S h) (hh : h ≤ 10000) (m f : Nat) (hf : f < 6) : ∃ E, zgd S m f 1000 E := by
  obtain ⟨_, _, t9, _, q9⟩ := zs_X7_reachByLands (d := 5) (s := am_ur s 8 (zln S m)) (m := m) (by omega) hR hI hh (fun b _ => rfl) hf 0 (fun _ => 0) (fun i => am_sx[i]?) (fun _ _ w => w) [] (fun _ _ => 0) (fun _ _ => 0)
  exact ⟨_, q9.2.1⟩
theorem zric_irr {S : zR} {t : Nat} : ¬ zric S t t := by
  unfold zric
  rw [if_neg (by omega), if_neg (by omega)]
  omega
theorem ztir_irr {S : zR} {t : Nat} : ¬ ztir S t t := by
  unfold ztir
  rw [if_neg (by omega), if_neg (by omega)]
  omega
/-- the next end, as the reference looks for it -/
def zN1 (S : zR) (k : Nat) : Int := zfo k (fun t e => if S 3 < zT S t 3 then (if e < zT S t 3 then e else zT S t 3) else e) 99980001
def zN2 (S : zR) (k : Nat) : Int := zfo k (fun b e => if S 3 < zB S b 4 then (if e < zB S b 4 then e else zB S b 4) else e) (zN1 S (zn S 1))
theorem zN1_r {S : zR} {h : Nat} (hI : zInv S h) (hh : h ≤ 10000) : ∀ {k : Nat}, k ≤ zn S 1 → (zne1 S k = -1 ∧ zN1 S k = 99980001) ∨ (zne1 S k = zN1 S k ∧ 0 < zN1 S k ∧ zN1 S k ≤ 480048)
  | 0, _ => Or.inl ⟨rfl, rfl⟩
  | k + 1, hk => by
    have h0 := zI_h hI hh
    have h1 := zN1_r hI hh (k := k) (by omega)
    have h2 := zI_t hI hh (t := k) (by omega)
    have e1 : zne1 S (k + 1) = zee (S 3) (zne1 S k) (zT S k 3) := rfl
    have e2 : zN1 S (k + 1) = if S 3 < zT S k 3 then (if zN1 S k < zT S k 3 then zN1 S k else zT S k 3) else zN1 S k := rfl
    rw [e1, e2]
    unfold zee
    by_cases q : S 3 < zT S k 3
    · rw [if_pos q]
      by_cases q2 : zN1 S k < zT S k 3
      · rw [if_pos q2, if_neg (by omega)]; omega
      · rw [if_neg q2]
        by_cases q3 : zne1 S k = -1 ∨ zT S k 3 < zne1 S k
        · rw [if_pos ⟨q, q3⟩]; omega
        · rw [if_neg (fun w => q3 w.2)]; omega
    · rw [if_neg q, if_neg (fun w => q w.1)]; exact h1
theorem zN2_r {S : zR} {h : Nat} (hI : zInv S h) (hh : h ≤ 10000) : ∀ {k : Nat}, k ≤ zn S 0 → (zne2 S k = -1 ∧ zN2 S k = 99980001) ∨ (zne2 S k = zN2 S k ∧ 0 < zN2 S k ∧ zN2 S k ≤ 480048)
  | 0, _ => zN1_r hI hh (Nat.le_refl _)
  | k + 1, hk => by
    have h0 := zI_h hI hh
    have h1 := zN2_r hI hh (k := k) (by omega)
    have h2 := zI_b hI hh (b := k) (by omega)
    have e1 : zne2 S (k + 1) = zee (S 3) (zne2 S k) (zB S k 4) := rfl
    have e2 : zN2 S (k + 1) = if S 3 < zB S k 4 then (if zN2 S k < zB S k 4 then zN2 S k else zB S k 4) else zN2 S k := rfl
    rw [e1, e2]
    unfold zee
    by_cases q : S 3 < zB S k 4
    · rw [if_pos q]
      by_cases q2 : zN2 S k < zB S k 4
      · rw [if_pos q2, if_neg (by omega)]; omega
      · rw [if_neg q2]
        by_cases q3 : zne2 S k = -1 ∨ zB S k 4 < zne2 S k
        · rw [if_pos ⟨q, q3⟩]; omega
        · rw [if_neg (fun w => q3 w.2)]; omega
    · rw [if_neg q, if_neg (fun w => q w.1)]; exact h1
