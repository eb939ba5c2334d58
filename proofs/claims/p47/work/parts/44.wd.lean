/-! FORMS: math (out of whole's 44, 45) -/
theorem zms_c {T : Nat → Int} {w : Char} {F : List Char} {i : Nat} : zms T (w :: F) i = if zft (w.toNat : Int) (T i) then
      ((zms T F (i + zwd T w.toNat i)).1, (zms T F (i + zwd T w.toNat i)).2.1, (if ((w.toNat : Nat) : Int) = 43 ∨ zdg (w.toNat : Int) then [zvl T i (zwd T w.toNat i)] else []) ++ (zms T F (i + zwd T w.toNat i)).2.2)
    else (i, false, []) := rfl
/-- a digit, one or two digits, a blank, a plus or a minus -/
theorem zms_d1 {T : Nat → Int} {R : List Char} {j : Nat} : zms T ('0' :: R) j = if zdg (T j) then ((zms T R (j + 1)).1, (zms T R (j + 1)).2.1, zvl T j 1 :: (zms T R (j + 1)).2.2) else (j, false, []) := by
  have e : zwd T ((('0').toNat : Nat) : Int) j = 1 := by unfold zwd; rw [if_neg (fun h => absurd h.1 (by decide))]
  rw [zms_c, e]
  by_cases q : zdg (T j)
  · rw [if_pos (Or.inl ⟨by decide, q⟩), if_pos q]; rfl
  · rw [if_neg (fun h => h.elim (fun h => q h.2) (fun h => h.elim (fun h => h.1 (by decide)) (fun h => h.1 (by decide)))), if_neg q]
theorem zms_pm {T : Nat → Int} {R : List Char} {j : Nat} : zms T ('+' :: R) j = if T j = 43 ∨ T j = 45 then ((zms T R (j + 1)).1, (zms T R (j + 1)).2.1, az_b (T j = 43) :: (zms T R (j + 1)).2.2) else (j, false, []) := by
  have e : zwd T ((('+').toNat : Nat) : Int) j = 1 := by unfold zwd; rw [if_neg (fun h => absurd h.1 (by decide))]
  rw [zms_c, e]
  by_cases q : T j = 43 ∨ T j = 45
  · have e2 : zvl T j 1 = az_b (T j = 43) := by
      unfold zvl az_b
      rw [if_pos (by omega)]
    rw [if_pos (Or.inr (Or.inl ⟨by decide, by decide, q⟩)), if_pos q, e2]; rfl
  · rw [if_neg (fun h => h.elim (fun h => absurd h.1 (by decide)) (fun h => h.elim (fun h => q h.2.2) (fun h => absurd (show ((('+').toNat : Nat) : Int) = 43 from by decide) h.2.1))), if_neg q]
