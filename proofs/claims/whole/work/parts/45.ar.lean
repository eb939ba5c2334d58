/-! FORMS AGAINST ARGUMENTS: math -/
theorem znw_1 {T : Nat → Int} {j : Nat} (h : zdg (T j)) : znw T 1 j = 1 := by
  unfold znw
  rw [if_neg (fun q => q h), if_neg (fun q => absurd q.1 (by decide))]
theorem znw_n {T : Nat → Int} {m j : Nat} (h : ¬ zdg (T j)) : znw T m j = 0 := by
  unfold znw
  rw [if_pos h]
theorem zms_d2 {T : Nat → Int} {R : List Char} {j : Nat} : zms T ('9' :: R) j = if zdg (T j) then ((zms T R (j + znw T 2 j)).1, (zms T R (j + znw T 2 j)).2.1, zvl T j (znw T 2 j) :: (zms T R (j + znw T 2 j)).2.2) else (j, false, []) := by
  rw [zms_c]
  by_cases q : zdg (T j)
  · have e : zwd T ((('9').toNat : Nat) : Int) j = znw T 2 j := by
      unfold zwd znw
      rw [if_neg (c := ¬ zdg (T j)) (fun h => h q)]
      by_cases q2 : zdg (T (j + 1))
      · rw [if_pos ⟨by decide, q2⟩, if_pos ⟨rfl, q2⟩]
      · rw [if_neg (fun h => q2 h.2), if_neg (fun h => q2 h.2)]
    rw [if_pos (Or.inl ⟨by decide, q⟩), if_pos q, e]; rfl
  · rw [if_neg (fun h => h.elim (fun h => q h.2) (fun h => h.elim (fun h => h.1 (by decide)) (fun h => h.1 (by decide)))), if_neg q]
theorem zms_pm {T : Nat → Int} {R : List Char} {j : Nat} : zms T ('+' :: R) j = if T j = 43 ∨ T j = 45 then ((zms T R (j + 1)).1, (zms T R (j + 1)).2.1, az_b (T j = 43) :: (zms T R (j + 1)).2.2) else (j, false, []) := by
  have e : zwd T ((('+').toNat : Nat) : Int) j = 1 := by unfold zwd; rw [if_neg (fun h => absurd h.1 (by decide))]
  rw [zms_c, e]
  by_cases q : T j = 43 ∨ T j = 45
  · have e2 : zvl T j 1 = az_b (T j = 43) := by
      unfold zvl az_b
      rw [if_pos (by omega)]
    rw [if_pos (Or.inr (Or.inl ⟨by decide, by decide, q⟩)), if_pos q, e2]; rfl
  · rw [if_neg (fun h => h.elim (fun h => absurd h.1 (by decide)) (fun h => h.elim (fun h => q h.2.2) (fun h => absurd (show ((('+').toNat : Nat) : Int) = 43 from by decide) h.2.1))), if_neg q]
theorem zms_0 {T : Nat → Int} {j : Nat} : zms T [] j = (j, true, []) := rfl
theorem zRs_s : zRs 0 = ['0', ' ', '0', ' ', '0', ' ', '0'] ∧ zRs 1 = [] ∧ zRs 2 = ['0', ' ', '9'] ∧ zRs 3 = ['0', ' ', '0'] ∧ zRs 4 = ['0', ' ', '0'] ∧ zRs 5 = ['0', ' ', '0'] ∧ zRs 6 = ['0'] ∧ zRs 7 = ['0'] ∧ zRs 8 = ['0'] ∧ zRs 9 = ['0', ' ', '0', ' ', '9'] ∧ zRs 10 = ['0', ' ', '9'] ∧ zRs 11 = ['0', '+'] ∧ zRs 12 = ['9'] := by decide
/-- the word that stands in full, and all its form -/
theorem zwi_y {T : Nat → Int} {i : Nat} (h : 0 ≤ zwi T i) : (zwi T i).toNat < 13 ∧ zal T (zWd (zwi T i).toNat) i = (zWd (zwi T i).toNat).length := by
  have h1 := zf_some _ _ h
  have h2 := zf_lt (fun k => decide (zal T (zWd k) i = (zWd k).length)) 13
  rw [decide_eq_true_eq] at h1
  have h3 : zwi T i < 13 := h2.2
  exact ⟨by omega, h1⟩
theorem zwi_n {T : Nat → Int} {i : Nat} (h : ¬ 0 ≤ zwi T i) : ∀ k, k < 13 → zal T (zWd k) i ≠ (zWd k).length := fun k hk => by
  have := zf_none' h k hk
  rw [decide_eq_false_iff_not] at this
  exact this
/-- the answer for a form whose word stands in full, out of what its arguments give -/
theorem zfk_w {T : Nat → Int} {i : Nat} (h : 0 ≤ zwi T i) : (zfk T i = if (zms T (zRs (zwi T i).toNat) (i + (zWd (zwi T i).toNat).length)).2.1 = true then zwi T i else -1) ∧ zer T i 13 = (((zms T (zRs (zwi T i).toNat) (i + (zWd (zwi T i).toNat).length)).1 : Nat) : Int) ∧ zms T (zF (zwi T i).toNat) i = zms T (zRs (zwi T i).toNat) (i + (zWd (zwi T i).toNat).length) := by
  obtain ⟨h1, h2⟩ := zwi_y h
  have h3 := zfk_y h1 h2
  have e := zF_ms (T := T) (i := i) h1
  rw [if_pos h2] at e
  rw [e] at h3
  exact ⟨by rw [h3.1, show (((zwi T i).toNat : Nat) : Int) = zwi T i from by omega], h3.2, e⟩
