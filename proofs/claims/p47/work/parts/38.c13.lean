/-! CLASS, 13: a form read from the text; written by program (wip/tools/zg/s13.py) -/
/-- signs, forms: what a sign of a form asks, how wide it is, what number is there -/
abbrev zdg (c : Int) : Prop := 48 ≤ c ∧ c ≤ 57
abbrev zft (w c : Int) : Prop := (zdg w ∧ zdg c) ∨ (¬ zdg w ∧ w = 43 ∧ (c = 43 ∨ c = 45)) ∨ (¬ zdg w ∧ w ≠ 43 ∧ c = w)
def zwd (T : Nat → Int) (w : Int) (i : Nat) : Nat := if w = 57 ∧ zdg (T (i + 1)) then 2 else 1
def zvl (T : Nat → Int) (i wd : Nat) : Int := if ¬ zdg (T i) then (if T i = 43 then 1 else 0) else if wd = 2 then 10 * (T i - 48) + T (i + 1) - 48 else T i - 48
/-- how far a form goes from a place: the place, whether all fits, the numbers -/
def zms (T : Nat → Int) : List Char → Nat → Nat × Bool × List Int
  | [], i => (i, true, [])
  | w :: F, i => if zft (w.toNat : Int) (T i) then
      ((zms T F (i + zwd T w.toNat i)).1, (zms T F (i + zwd T w.toNat i)).2.1, (if ((w.toNat : Nat) : Int) = 43 ∨ zdg (w.toNat : Int) then [zvl T i (zwd T w.toNat i)] else []) ++ (zms T F (i + zwd T w.toNat i)).2.2)
    else (i, false, [])
/-- the numbers that a form asks -/
def zpc : List Char → Nat
  | [] => 0
  | w :: F => (if ((w.toNat : Nat) : Int) = 43 ∨ zdg (w.toNat : Int) then 1 else 0) + zpc F
/-- the text typed, to the class -/
def zTx (s : az_S) (n : Nat) (T : Nat → Int) : Prop := s 22 2 = ((n : Nat) : Int) ∧ n ≤ 60 ∧ (∀ k, k < n → s 24 k = T k) ∧ (∀ k, n ≤ k → T k = 0) ∧ ∀ k, 0 ≤ T k ∧ T k < 65536
theorem zdr {F : List Char} {k : Nat} {c : Char} (h : F[k]? = some c) : F.drop k = c :: F.drop (k + 1) := by
  obtain ⟨h1, h2⟩ := List.getElem?_eq_some_iff.mp h
  rw [List.drop_eq_getElem_cons h1, h2]
theorem zch_lt (c : Char) : c.toNat < 1114112 := by
  have h := c.valid
  unfold UInt32.isValidChar Nat.isValidChar at h
  show c.val.toNat < 1114112
  omega
set_option maxRecDepth 100000 in
set_option maxHeartbeats 800000 in
theorem zs_X1_isDigit {d : Nat} {s : az_S} (hd : 0 ≤ d) {c : Int} (h1 : az_in c) : az_R d am_m_X1_isDigit 0 (az_ini (am_mL am_m_X1_isDigit) [az_i (c)]) [] (s) (az_ret (some (az_i (az_b (zdg c)))) (s)) := by
  refine az_to 0 (pc2 := 0) (lv2 := [some (az_i (c))]) (st2 := []) (s2 := s) rfl ?_
  refine az_to 2 (pc2 := 3) (lv2 := [some (az_i (c))]) (st2 := [az_i (48), az_i (c)]) (s2 := s) rfl ?_
  refine az_if2 16 6 rfl (by decide) (by first | assumption | exact ⟨by omega, by omega⟩) ⟨by decide, by decide⟩ (fun h1 => ?_) (fun h1 => ?_)
  · have h1 : c < 48 := h1
    refine az_to 1 (pc2 := 17) (lv2 := [some (az_i (c))]) (st2 := [az_i (0)]) (s2 := s) rfl ?_
    refine az_retB rfl rfl (by first | decide | omega | exact Or.inl rfl | exact Or.inr rfl) ?_
    exact ⟨by rw [az_b0 (by omega)], rfl⟩
  · have h1 : ¬ (c < 48) := h1
    refine az_to 2 (pc2 := 9) (lv2 := [some (az_i (c))]) (st2 := [az_i (57), az_i (c)]) (s2 := s) rfl ?_
    refine az_if2 16 12 rfl (by decide) (by first | assumption | exact ⟨by omega, by omega⟩) ⟨by decide, by decide⟩ (fun h2 => ?_) (fun h2 => ?_)
    · have h2 : 57 < c := h2
      refine az_to 1 (pc2 := 17) (lv2 := [some (az_i (c))]) (st2 := [az_i (0)]) (s2 := s) rfl ?_
      refine az_retB rfl rfl (by first | decide | omega | exact Or.inl rfl | exact Or.inr rfl) ?_
      exact ⟨by rw [az_b0 (by omega)], rfl⟩
    · have h2 : ¬ (57 < c) := h2
      refine az_to 2 (pc2 := 17) (lv2 := [some (az_i (c))]) (st2 := [az_i (1)]) (s2 := s) rfl ?_
      refine az_retB rfl rfl (by first | decide | omega | exact Or.inl rfl | exact Or.inr rfl) ?_
      exact ⟨by rw [az_b1 (by omega)], rfl⟩
set_option maxRecDepth 100000 in
set_option maxHeartbeats 800000 in
theorem zs_X1_fits {d : Nat} {s : az_S} (hd : 1 ≤ d) {w c : Int} (h1 : az_in w) (h2 : az_in c) : az_R d am_m_X1_fits 0 (az_ini (am_mL am_m_X1_fits) [az_i (w), az_i (c)]) [] (s) (az_ret (some (az_i (az_b (zft w c)))) (s)) := by
  refine az_to 0 (pc2 := 0) (lv2 := [some (az_i (w)), some (az_i (c))]) (st2 := []) (s2 := s) rfl ?_
  refine az_to 1 (pc2 := 1) (lv2 := [some (az_i (w)), some (az_i (c))]) (st2 := [az_i (w)]) (s2 := s) rfl ?_
  refine az_clv (v := some (az_i (az_b (zdg w)))) (t := s) (m2 := am_m_X1_isDigit) (as := [az_i (w)]) (rest := []) 4 rfl rfl ⟨rfl, rfl⟩ (by omega) (zs_X1_isDigit (s := s) (c := w) (by omega) (by first | assumption | exact ⟨by omega, by omega⟩)) ?_
  refine az_to 0 (pc2 := 4) (lv2 := [some (az_i (w)), some (az_i (c))]) (st2 := [az_i (az_b (zdg w))]) (s2 := s) rfl ?_
  refine az_ifbe 12 7 rfl (by decide) (fun h1 => ?_) (fun h1 => ?_)
  · have h1 : ¬ (zdg w) := h1
    refine az_to 2 (pc2 := 15) (lv2 := [some (az_i (w)), some (az_i (c))]) (st2 := [az_i (43), az_i (w)]) (s2 := s) rfl ?_
    refine az_if2 38 18 rfl (by decide) (by first | assumption | exact ⟨by omega, by omega⟩) ⟨by decide, by decide⟩ (fun h2 => ?_) (fun h2 => ?_)
    · have h2 : ¬ w = 43 := h2
      refine az_to 2 (pc2 := 40) (lv2 := [some (az_i (w)), some (az_i (c))]) (st2 := [az_i (w), az_i (c)]) (s2 := s) rfl ?_
      refine az_if2 47 43 rfl (by decide) (by first | assumption | exact ⟨by omega, by omega⟩) (by first | assumption | exact ⟨by omega, by omega⟩) (fun h3 => ?_) (fun h3 => ?_)
      · have h3 : ¬ c = w := h3
        refine az_to 1 (pc2 := 48) (lv2 := [some (az_i (w)), some (az_i (c))]) (st2 := [az_i (0)]) (s2 := s) rfl ?_
        refine az_retB rfl rfl (by first | decide | omega | exact Or.inl rfl | exact Or.inr rfl) ?_
        exact ⟨by rw [az_b0 (by omega)], rfl⟩
      · have h3 : c = w := Decidable.not_not.mp h3
        refine az_to 2 (pc2 := 48) (lv2 := [some (az_i (w)), some (az_i (c))]) (st2 := [az_i (1)]) (s2 := s) rfl ?_
        refine az_retB rfl rfl (by first | decide | omega | exact Or.inl rfl | exact Or.inr rfl) ?_
        exact ⟨by rw [az_b1 (by omega)], rfl⟩
    · have h2 : w = 43 := Decidable.not_not.mp h2
      refine az_to 2 (pc2 := 21) (lv2 := [some (az_i (w)), some (az_i (c))]) (st2 := [az_i (43), az_i (c)]) (s2 := s) rfl ?_
      refine az_if2 30 24 rfl (by decide) (by first | assumption | exact ⟨by omega, by omega⟩) ⟨by decide, by decide⟩ (fun h4 => ?_) (fun h4 => ?_)
      · have h4 : c = 43 := h4
        refine az_to 2 (pc2 := 48) (lv2 := [some (az_i (w)), some (az_i (c))]) (st2 := [az_i (1)]) (s2 := s) rfl ?_
        refine az_retB rfl rfl (by first | decide | omega | exact Or.inl rfl | exact Or.inr rfl) ?_
        exact ⟨by rw [az_b1 (by omega)], rfl⟩
      · have h4 : ¬ (c = 43) := h4
        refine az_to 2 (pc2 := 27) (lv2 := [some (az_i (w)), some (az_i (c))]) (st2 := [az_i (45), az_i (c)]) (s2 := s) rfl ?_
        refine az_if2 34 30 rfl (by decide) (by first | assumption | exact ⟨by omega, by omega⟩) ⟨by decide, by decide⟩ (fun h5 => ?_) (fun h5 => ?_)
        · have h5 : ¬ c = 45 := h5
          refine az_to 2 (pc2 := 48) (lv2 := [some (az_i (w)), some (az_i (c))]) (st2 := [az_i (0)]) (s2 := s) rfl ?_
          refine az_retB rfl rfl (by first | decide | omega | exact Or.inl rfl | exact Or.inr rfl) ?_
          exact ⟨by rw [az_b0 (by omega)], rfl⟩
        · have h5 : c = 45 := Decidable.not_not.mp h5
          refine az_to 2 (pc2 := 48) (lv2 := [some (az_i (w)), some (az_i (c))]) (st2 := [az_i (1)]) (s2 := s) rfl ?_
          refine az_retB rfl rfl (by first | decide | omega | exact Or.inl rfl | exact Or.inr rfl) ?_
          exact ⟨by rw [az_b1 (by omega)], rfl⟩
  · have h1 : zdg w := h1
    refine az_to 1 (pc2 := 8) (lv2 := [some (az_i (w)), some (az_i (c))]) (st2 := [az_i (c)]) (s2 := s) rfl ?_
    refine az_clv (v := some (az_i (az_b (zdg c)))) (t := s) (m2 := am_m_X1_isDigit) (as := [az_i (c)]) (rest := []) 11 rfl rfl ⟨rfl, rfl⟩ (by omega) (zs_X1_isDigit (s := s) (c := c) (by omega) (by first | assumption | exact ⟨by omega, by omega⟩)) ?_
    refine az_to 0 (pc2 := 11) (lv2 := [some (az_i (w)), some (az_i (c))]) (st2 := [az_i (az_b (zdg c))]) (s2 := s) rfl ?_
    refine az_retP rfl rfl ?_
    exact ⟨by rw [az_b_iff (q := zft w c) (by unfold zft; constructor <;> (intro q; omega))], rfl⟩
set_option maxRecDepth 100000 in
set_option maxHeartbeats 800000 in
theorem zs_X3_signAt_22 {d : Nat} {s : az_S} (hd : 1 ≤ d) {n : Nat} {T : Nat → Int} (hT : zTx s n T) {k : Nat} (hk9 : k ≤ 1000) : az_R d am_m_X3_signAt 0 (az_ini (am_mL am_m_X3_signAt) [az_r 22, az_i (((k : Nat) : Int))]) [] (s) (az_ret (some (az_i (T k))) (s)) := by
  have h60 : n ≤ 60 := hT.2.1
  refine az_to 0 (pc2 := 0) (lv2 := [some (az_r 22), some (az_i (((k : Nat) : Int)))]) (st2 := []) (s2 := s) rfl ?_
  refine az_to 3 (pc2 := 5) (lv2 := [some (az_r 22), some (az_i (((k : Nat) : Int)))]) (st2 := [az_i (s 22 2), az_i (((k : Nat) : Int))]) (s2 := s) rfl ?_
  refine az_to 0 (pc2 := 5) (lv2 := [some (az_r 22), some (az_i (((k : Nat) : Int)))]) (st2 := [az_i (((n : Nat) : Int)), az_i (((k : Nat) : Int))]) (s2 := s) (by rw [show s 22 2 = ((n : Nat) : Int) from hT.1]; rfl) ?_
  refine az_if2 20 8 rfl (by decide) (by first | assumption | exact ⟨by omega, by omega⟩) (by first | assumption | exact ⟨by omega, by omega⟩) (fun h1 => ?_) (fun h1 => ?_)
  · have h1 : ((n : Nat) : Int) ≤ ((k : Nat) : Int) := h1
    refine az_to 1 (pc2 := 21) (lv2 := [some (az_r 22), some (az_i (((k : Nat) : Int)))]) (st2 := [az_i (0)]) (s2 := s) rfl ?_
    refine az_retC rfl rfl (by constructor <;> omega) ?_
    exact ⟨by rw [hT.2.2.2.1 k (by omega)], rfl⟩
  · have h1 : ¬ (((n : Nat) : Int) ≤ ((k : Nat) : Int)) := h1
    have hk6 : k < 60 := by omega
    have hrk := hT.2.2.2.2 k
    have hsk := hT.2.2.1 k (by omega)
    refine az_to 3 (pc2 := 13) (lv2 := [some (az_r 22), some (az_i (((k : Nat) : Int)))]) (st2 := [az_i (((k : Nat) : Int)), az_r 23]) (s2 := s) rfl ?_
    refine az_clv (v := some (az_i (s 24 k))) (t := s) (m2 := am_m_X5_at) (as := [az_r 23, az_i (((k : Nat) : Int))]) (rest := []) 16 rfl rfl ⟨rfl, rfl⟩ (by omega) (zs_X5_at_23 (s := s) (k := k) (by omega) (by omega)) ?_
    refine az_to 0 (pc2 := 16) (lv2 := [some (az_r 22), some (az_i (((k : Nat) : Int)))]) (st2 := [az_i (s 24 k)]) (s2 := s) rfl ?_
    refine az_to 2 (pc2 := 21) (lv2 := [some (az_r 22), some (az_i (((k : Nat) : Int)))]) (st2 := [az_i ((s 24 k % 65536))]) (s2 := s) rfl ?_
    refine az_retC rfl rfl (by constructor <;> omega) ?_
    exact ⟨by rw [show s 24 k % 65536 = T k from by omega], rfl⟩
set_option maxRecDepth 100000 in
set_option maxHeartbeats 800000 in
theorem zs_X1_valueAt_2 {d : Nat} {s : az_S} (hd : 2 ≤ d) {n : Nat} {T : Nat → Int} (hT : zTx s n T) {i : Nat} (hi9 : i ≤ 900) : az_R d am_m_X1_valueAt 0 (az_ini (am_mL am_m_X1_valueAt) [az_r 25, az_i (((i : Nat) : Int)), az_i (2)]) [] (s) (az_ret (some (az_i (zvl T i 2))) (s)) := by
  have hri := hT.2.2.2.2 i
  have hrj := hT.2.2.2.2 (i + 1)
  refine az_to 0 (pc2 := 0) (lv2 := [some (az_r 25), some (az_i (((i : Nat) : Int))), some (az_i (2)), none]) (st2 := []) (s2 := s) rfl ?_
  refine az_to 3 (pc2 := 5) (lv2 := [some (az_r 25), some (az_i (((i : Nat) : Int))), some (az_i (2)), none]) (st2 := [az_i (((i : Nat) : Int)), az_r 22]) (s2 := s) rfl ?_
  refine az_clv (v := some (az_i (T i))) (t := s) (m2 := am_m_X3_signAt) (as := [az_r 22, az_i (((i : Nat) : Int))]) (rest := []) 8 rfl rfl ⟨rfl, rfl⟩ (by omega) (zs_X3_signAt_22 (s := s) (k := i) (by omega) hT (by omega)) ?_
  refine az_to 0 (pc2 := 8) (lv2 := [some (az_r 25), some (az_i (((i : Nat) : Int))), some (az_i (2)), none]) (st2 := [az_i (T i)]) (s2 := s) rfl ?_
  refine az_to 2 (pc2 := 10) (lv2 := [some (az_r 25), some (az_i (((i : Nat) : Int))), some (az_i (2)), some (az_i (T i))]) (st2 := [az_i (T i)]) (s2 := s) rfl ?_
  refine az_clv (v := some (az_i (az_b (zdg (T i))))) (t := s) (m2 := am_m_X1_isDigit) (as := [az_i (T i)]) (rest := []) 13 rfl rfl ⟨rfl, rfl⟩ (by omega) (zs_X1_isDigit (s := s) (c := (T i)) (by omega) (by first | assumption | exact ⟨by omega, by omega⟩)) ?_
  refine az_to 0 (pc2 := 13) (lv2 := [some (az_r 25), some (az_i (((i : Nat) : Int))), some (az_i (2)), some (az_i (T i))]) (st2 := [az_i (az_b (zdg (T i)))]) (s2 := s) rfl ?_
  refine az_ifbn 28 16 rfl (by decide) (fun h1 => ?_) (fun h1 => ?_)
  · have h1 : zdg (T i) := h1
    refine az_to 2 (pc2 := 30) (lv2 := [some (az_r 25), some (az_i (((i : Nat) : Int))), some (az_i (2)), some (az_i (T i))]) (st2 := [az_i (2), az_i (2)]) (s2 := s) rfl ?_
    refine az_if2 57 33 rfl (by decide) ⟨by decide, by decide⟩ ⟨by decide, by decide⟩ (fun h => absurd h (by unfold az_cnd; decide)) (fun _ => ?_)
    refine az_to 10 (pc2 := 47) (lv2 := [some (az_r 25), some (az_i (((i : Nat) : Int))), some (az_i (2)), some (az_i (T i))]) (st2 := [az_i ((((i : Nat) : Int) + 1)), az_r 22, az_i ((10 * (T i - 48)))]) (s2 := s) rfl ?_
    refine az_clv (v := some (az_i (T (i + 1)))) (t := s) (m2 := am_m_X3_signAt) (as := [az_r 22, az_i ((((i : Nat) : Int) + 1))]) (rest := [az_i ((10 * (T i - 48)))]) 50 rfl rfl ⟨rfl, rfl⟩ (by omega) (zs_X3_signAt_22 (s := s) (k := (i + 1)) (by omega) hT (by omega)) ?_
    refine az_to 0 (pc2 := 50) (lv2 := [some (az_r 25), some (az_i (((i : Nat) : Int))), some (az_i (2)), some (az_i (T i))]) (st2 := [az_i (T (i + 1)), az_i ((10 * (T i - 48)))]) (s2 := s) rfl ?_
    refine az_to 4 (pc2 := 61) (lv2 := [some (az_r 25), some (az_i (((i : Nat) : Int))), some (az_i (2)), some (az_i (T i))]) (st2 := [az_i ((((10 * (T i - 48)) + T (i + 1)) - 48))]) (s2 := s) rfl ?_
    refine az_retI rfl rfl ?_
    exact ⟨by unfold zvl; repeat (first | rw [if_pos (by first | assumption | omega)] | rw [if_neg (by first | assumption | omega)]), rfl⟩
  · have h1 : ¬ (zdg (T i)) := h1
    refine az_to 2 (pc2 := 19) (lv2 := [some (az_r 25), some (az_i (((i : Nat) : Int))), some (az_i (2)), some (az_i (T i))]) (st2 := [az_i (43), az_i (T i)]) (s2 := s) rfl ?_
    refine az_if2 26 22 rfl (by decide) (by first | assumption | exact ⟨by omega, by omega⟩) ⟨by decide, by decide⟩ (fun h2 => ?_) (fun h2 => ?_)
    · have h2 : ¬ T i = 43 := h2
      refine az_to 1 (pc2 := 27) (lv2 := [some (az_r 25), some (az_i (((i : Nat) : Int))), some (az_i (2)), some (az_i (T i))]) (st2 := [az_i (0)]) (s2 := s) rfl ?_
      refine az_retI rfl rfl ?_
      exact ⟨by unfold zvl; repeat (first | rw [if_pos (by first | assumption | omega)] | rw [if_neg (by first | assumption | omega)]), rfl⟩
    · have h2 : T i = 43 := Decidable.not_not.mp h2
      refine az_to 2 (pc2 := 27) (lv2 := [some (az_r 25), some (az_i (((i : Nat) : Int))), some (az_i (2)), some (az_i (T i))]) (st2 := [az_i (1)]) (s2 := s) rfl ?_
      refine az_retI rfl rfl ?_
      exact ⟨by unfold zvl; repeat (first | rw [if_pos (by first | assumption | omega)] | rw [if_neg (by first | assumption | omega)]), rfl⟩
set_option maxRecDepth 100000 in
set_option maxHeartbeats 800000 in
theorem zs_X1_valueAt_1 {d : Nat} {s : az_S} (hd : 2 ≤ d) {n : Nat} {T : Nat → Int} (hT : zTx s n T) {i : Nat} (hi9 : i ≤ 900) : az_R d am_m_X1_valueAt 0 (az_ini (am_mL am_m_X1_valueAt) [az_r 25, az_i (((i : Nat) : Int)), az_i (1)]) [] (s) (az_ret (some (az_i (zvl T i 1))) (s)) := by
  have hri := hT.2.2.2.2 i
  have hrj := hT.2.2.2.2 (i + 1)
  refine az_to 0 (pc2 := 0) (lv2 := [some (az_r 25), some (az_i (((i : Nat) : Int))), some (az_i (1)), none]) (st2 := []) (s2 := s) rfl ?_
  refine az_to 3 (pc2 := 5) (lv2 := [some (az_r 25), some (az_i (((i : Nat) : Int))), some (az_i (1)), none]) (st2 := [az_i (((i : Nat) : Int)), az_r 22]) (s2 := s) rfl ?_
  refine az_clv (v := some (az_i (T i))) (t := s) (m2 := am_m_X3_signAt) (as := [az_r 22, az_i (((i : Nat) : Int))]) (rest := []) 8 rfl rfl ⟨rfl, rfl⟩ (by omega) (zs_X3_signAt_22 (s := s) (k := i) (by omega) hT (by omega)) ?_
  refine az_to 0 (pc2 := 8) (lv2 := [some (az_r 25), some (az_i (((i : Nat) : Int))), some (az_i (1)), none]) (st2 := [az_i (T i)]) (s2 := s) rfl ?_
  refine az_to 2 (pc2 := 10) (lv2 := [some (az_r 25), some (az_i (((i : Nat) : Int))), some (az_i (1)), some (az_i (T i))]) (st2 := [az_i (T i)]) (s2 := s) rfl ?_
  refine az_clv (v := some (az_i (az_b (zdg (T i))))) (t := s) (m2 := am_m_X1_isDigit) (as := [az_i (T i)]) (rest := []) 13 rfl rfl ⟨rfl, rfl⟩ (by omega) (zs_X1_isDigit (s := s) (c := (T i)) (by omega) (by first | assumption | exact ⟨by omega, by omega⟩)) ?_
  refine az_to 0 (pc2 := 13) (lv2 := [some (az_r 25), some (az_i (((i : Nat) : Int))), some (az_i (1)), some (az_i (T i))]) (st2 := [az_i (az_b (zdg (T i)))]) (s2 := s) rfl ?_
  refine az_ifbn 28 16 rfl (by decide) (fun h1 => ?_) (fun h1 => ?_)
  · have h1 : zdg (T i) := h1
    refine az_to 2 (pc2 := 30) (lv2 := [some (az_r 25), some (az_i (((i : Nat) : Int))), some (az_i (1)), some (az_i (T i))]) (st2 := [az_i (2), az_i (1)]) (s2 := s) rfl ?_
    refine az_if2 57 33 rfl (by decide) ⟨by decide, by decide⟩ ⟨by decide, by decide⟩ (fun _ => ?_) (fun h => absurd (show az_cnd _ _ _ by unfold az_cnd; decide) h)
    refine az_to 3 (pc2 := 61) (lv2 := [some (az_r 25), some (az_i (((i : Nat) : Int))), some (az_i (1)), some (az_i (T i))]) (st2 := [az_i ((T i - 48))]) (s2 := s) rfl ?_
    refine az_retI rfl rfl ?_
    exact ⟨by unfold zvl; repeat (first | rw [if_pos (by first | assumption | omega)] | rw [if_neg (by first | assumption | omega)]), rfl⟩
  · have h1 : ¬ (zdg (T i)) := h1
    refine az_to 2 (pc2 := 19) (lv2 := [some (az_r 25), some (az_i (((i : Nat) : Int))), some (az_i (1)), some (az_i (T i))]) (st2 := [az_i (43), az_i (T i)]) (s2 := s) rfl ?_
    refine az_if2 26 22 rfl (by decide) (by first | assumption | exact ⟨by omega, by omega⟩) ⟨by decide, by decide⟩ (fun h2 => ?_) (fun h2 => ?_)
    · have h2 : ¬ T i = 43 := h2
      refine az_to 1 (pc2 := 27) (lv2 := [some (az_r 25), some (az_i (((i : Nat) : Int))), some (az_i (1)), some (az_i (T i))]) (st2 := [az_i (0)]) (s2 := s) rfl ?_
      refine az_retI rfl rfl ?_
      exact ⟨by unfold zvl; repeat (first | rw [if_pos (by first | assumption | omega)] | rw [if_neg (by first | assumption | omega)]), rfl⟩
    · have h2 : T i = 43 := Decidable.not_not.mp h2
      refine az_to 2 (pc2 := 27) (lv2 := [some (az_r 25), some (az_i (((i : Nat) : Int))), some (az_i (1)), some (az_i (T i))]) (st2 := [az_i (1)]) (s2 := s) rfl ?_
      refine az_retI rfl rfl ?_
      exact ⟨by unfold zvl; repeat (first | rw [if_pos (by first | assumption | omega)] | rw [if_neg (by first | assumption | omega)]), rfl⟩
set_option maxRecDepth 100000 in
set_option maxHeartbeats 800000 in
theorem zs_X1_matches_L15 {d : Nat} {s : az_S} (hd : 4 ≤ d) {n : Nat} {T : Nat → Int} (hT : zTx s n T) {fi : Nat} {tx : String} (htx : am_sx[fi]? = some tx) (h14 : tx.length ≤ 14) {c i0 : Nat} {e0 : Int} (hc9 : c ≤ 10) (hi0 : i0 ≤ 60) (hc : s 25 3 = ((c : Nat) : Int)) (hat : s 25 4 = ((i0 : Nat) : Int)) (her : s 25 5 = e0) (he0 : 0 ≤ e0 ∧ e0 ≤ 1000) (hpc : zpc tx.toList ≤ 4) : ∀ (mq : Nat) (k : Nat) (i : Nat) (p : Nat) (u : az_S) (x5 : Option az_V) (x6 : Option az_V), mq = tx.length - k → (k ≤ tx.length) → (p ≤ 4) → (i ≤ 60 + 2 * k) → (∃ L, L.length = p ∧ zms T tx.toList i0 = ((zms T (tx.toList.drop k) i).1, (zms T (tx.toList.drop k) i).2.1, L ++ (zms T (tx.toList.drop k) i).2.2) ∧ p + zpc (tx.toList.drop k) ≤ 4 ∧ ∀ q, q < p → u 29 (4 * c + q) = L.getD q 0) → (∀ j, j < 4 * c → u 29 j = s 29 j) → (∀ j, j ≠ 29 → u j = s j) → az_R d am_m_X1_matches 15 [some (az_r 25), some (az_x (fi + 1)), some (az_i (((i : Nat) : Int))), some (az_i ((((4 * c + p) : Nat) : Int))), some (az_i (((k : Nat) : Int))), x5, x6] [] (u) (fun o t => o = .inl (some (az_i (az_b ((zms T tx.toList i0).2.1 = true)))) ∧ t 25 4 = (if (zms T tx.toList i0).2.1 = true then (((zms T tx.toList i0).1 : Nat) : Int) else ((i0 : Nat) : Int)) ∧ t 25 5 = (if (zms T tx.toList i0).2.1 = true then e0 else if e0 < (((zms T tx.toList i0).1 : Nat) : Int) then (((zms T tx.toList i0).1 : Nat) : Int) else e0) ∧ (∀ j, j ≠ 4 → j ≠ 5 → t 25 j = s 25 j) ∧ ((zms T tx.toList i0).2.1 = true → ∀ q, q < (zms T tx.toList i0).2.2.length → t 29 (4 * c + q) = (zms T tx.toList i0).2.2.getD q 0) ∧ (∀ j, j < 4 * c → t 29 j = s 29 j) ∧ ∀ j, j ≠ 25 → j ≠ 29 → t j = s j) := by
  intro mq
  induction mq using Nat.strongRecOn with
  | _ mq ih =>
    intro k i p u x5 x6 hm g0 g1 g2 g3 g4 g5
    skip
    refine az_to 2 (pc2 := 18) (lv2 := [some (az_r 25), some (az_x (fi + 1)), some (az_i (((i : Nat) : Int))), some (az_i ((((4 * c + p) : Nat) : Int))), some (az_i (((k : Nat) : Int))), x5, x6]) (st2 := [az_x (fi + 1), az_i (((k : Nat) : Int))]) (s2 := u) rfl ?_
    refine az_len 21 rfl rfl ⟨rfl, by simp, rfl⟩ htx ?_
    refine az_to 0 (pc2 := 21) (lv2 := [some (az_r 25), some (az_x (fi + 1)), some (az_i (((i : Nat) : Int))), some (az_i ((((4 * c + p) : Nat) : Int))), some (az_i (((k : Nat) : Int))), x5, x6]) (st2 := [az_i (((tx.length : Nat) : Int)), az_i (((k : Nat) : Int))]) (s2 := u) rfl ?_
    refine az_if2 136 24 rfl (by decide) (by first | assumption | exact ⟨by omega, by omega⟩) (by first | assumption | exact ⟨by omega, by omega⟩) (fun h1 => ?_) (fun h1 => ?_)
    · have h1 : ((tx.length : Nat) : Int) ≤ ((k : Nat) : Int) := h1
      refine az_to 4 (pc2 := 142) (lv2 := [some (az_r 25), some (az_x (fi + 1)), some (az_i (((i : Nat) : Int))), some (az_i ((((4 * c + p) : Nat) : Int))), some (az_i (((k : Nat) : Int))), x5, x6]) (st2 := [az_i (1)]) (s2 := am_up u 25 4 (((i : Nat) : Int))) rfl ?_
      refine az_retB rfl rfl (by first | decide | omega | exact Or.inl rfl | exact Or.inr rfl) ?_
      obtain rfl : k = tx.length := by omega
      obtain ⟨L, hL1, hL2, hL3, hL4⟩ := g3
      have hz : zms T tx.toList i0 = (i, true, L ++ []) := by
        rw [hL2, List.drop_eq_nil_of_le (by rw [String.length_toList]; exact Nat.le_refl _)]
        rfl
      rw [hz]
      refine ⟨rfl, rfl, ?_, fun j h4 h5 => ?_, fun _ q hq => ?_, fun j hj => g4 j hj, fun j h1 h2 => ?_⟩
      · show u 25 5 = _; rw [g5 25 (by decide)]; exact her
      · show am_up u 25 4 _ 25 j = _; rw [← g5 25 (by decide)]; simp [am_up, h4]
      · rw [List.append_nil] at hq ⊢
        have hq : q < L.length := hq
        exact hL4 q (by omega)
      · rw [← g5 j h2]; funext b; simp [am_up, h1]
    · have h1 : ¬ (((tx.length : Nat) : Int) ≤ ((k : Nat) : Int)) := h1
      have g9 := g5
      have hTu : zTx u n T := ⟨by rw [g5 22 (by decide)]; exact hT.1, hT.2.1, fun k hk => by rw [g5 24 (by decide)]; exact hT.2.2.1 k hk, hT.2.2.2⟩
      obtain ⟨L, hL1, hL2, hL3, hL4⟩ := g3
      obtain ⟨ch, hch⟩ : ∃ ch, tx.toList[(((k : Nat) : Int)).toNat]? = some ch := ⟨_, List.getElem?_eq_getElem (by rw [String.length_toList, Int.toNat_natCast]; omega)⟩
      have hck : tx.toList[k]? = some ch := by rw [Int.toNat_natCast] at hch; exact hch
      have hdr := zdr hck
      have hcv := zch_lt ch
      rw [hdr] at hL2 hL3
      have hri := hT.2.2.2.2 i
      have hrj := hT.2.2.2.2 (i + 1)
      refine az_to 2 (pc2 := 27) (lv2 := [some (az_r 25), some (az_x (fi + 1)), some (az_i (((i : Nat) : Int))), some (az_i ((((4 * c + p) : Nat) : Int))), some (az_i (((k : Nat) : Int))), x5, x6]) (st2 := [az_i (((k : Nat) : Int)), az_x (fi + 1)]) (s2 := u) rfl ?_
      refine az_chr 30 rfl rfl ⟨rfl, by simp, rfl⟩ htx ⟨by omega, by omega, by omega⟩ hch ?_
      refine az_to 0 (pc2 := 30) (lv2 := [some (az_r 25), some (az_x (fi + 1)), some (az_i (((i : Nat) : Int))), some (az_i ((((4 * c + p) : Nat) : Int))), some (az_i (((k : Nat) : Int))), x5, x6]) (st2 := [az_i (((ch.toNat : Nat) : Int))]) (s2 := u) rfl ?_
      refine az_to 5 (pc2 := 39) (lv2 := [some (az_r 25), some (az_x (fi + 1)), some (az_i (((i : Nat) : Int))), some (az_i ((((4 * c + p) : Nat) : Int))), some (az_i (((k : Nat) : Int))), some (az_i (((ch.toNat : Nat) : Int))), x6]) (st2 := [az_i (((i : Nat) : Int)), az_r 22, az_i (((ch.toNat : Nat) : Int))]) (s2 := u) rfl ?_
      refine az_clv (v := some (az_i (T i))) (t := u) (m2 := am_m_X3_signAt) (as := [az_r 22, az_i (((i : Nat) : Int))]) (rest := [az_i (((ch.toNat : Nat) : Int))]) 42 rfl rfl ⟨rfl, rfl⟩ (by omega) (zs_X3_signAt_22 (s := u) (k := i) (by omega) hTu (by omega)) ?_
      refine az_to 0 (pc2 := 42) (lv2 := [some (az_r 25), some (az_x (fi + 1)), some (az_i (((i : Nat) : Int))), some (az_i ((((4 * c + p) : Nat) : Int))), some (az_i (((k : Nat) : Int))), some (az_i (((ch.toNat : Nat) : Int))), x6]) (st2 := [az_i (T i), az_i (((ch.toNat : Nat) : Int))]) (s2 := u) rfl ?_
      refine az_clv (v := some (az_i (az_b (zft (((ch.toNat : Nat) : Int)) (T i))))) (t := u) (m2 := am_m_X1_fits) (as := [az_i (((ch.toNat : Nat) : Int)), az_i (T i)]) (rest := []) 45 rfl rfl ⟨rfl, rfl⟩ (by omega) (zs_X1_fits (s := u) (w := (((ch.toNat : Nat) : Int))) (c := (T i)) (by omega) (by first | assumption | exact ⟨by omega, by omega⟩) (by first | assumption | exact ⟨by omega, by omega⟩)) ?_
      refine az_to 0 (pc2 := 45) (lv2 := [some (az_r 25), some (az_x (fi + 1)), some (az_i (((i : Nat) : Int))), some (az_i ((((4 * c + p) : Nat) : Int))), some (az_i (((k : Nat) : Int))), some (az_i (((ch.toNat : Nat) : Int))), x6]) (st2 := [az_i (az_b (zft (((ch.toNat : Nat) : Int)) (T i)))]) (s2 := u) rfl ?_
      refine az_ifbn 62 48 rfl (by decide) (fun h2 => ?_) (fun h2 => ?_)
      · have h2 : zft (((ch.toNat : Nat) : Int)) (T i) := h2
        refine az_to 2 (pc2 := 66) (lv2 := [some (az_r 25), some (az_x (fi + 1)), some (az_i (((i : Nat) : Int))), some (az_i ((((4 * c + p) : Nat) : Int))), some (az_i (((k : Nat) : Int))), some (az_i (((ch.toNat : Nat) : Int))), x6]) (st2 := [az_i (57), az_i (((ch.toNat : Nat) : Int))]) (s2 := u) rfl ?_
        refine az_if2 89 69 rfl (by decide) (by first | assumption | exact ⟨by omega, by omega⟩) ⟨by decide, by decide⟩ (fun h3 => ?_) (fun h3 => ?_)
        · have h3 : ¬ ((ch.toNat : Nat) : Int) = 57 := h3
          refine az_to 4 (pc2 := 96) (lv2 := [some (az_r 25), some (az_x (fi + 1)), some (az_i (((i : Nat) : Int))), some (az_i ((((4 * c + p) : Nat) : Int))), some (az_i (((k : Nat) : Int))), some (az_i (((ch.toNat : Nat) : Int))), some (az_i (1))]) (st2 := [az_i (43), az_i (((ch.toNat : Nat) : Int))]) (s2 := u) rfl ?_
          refine az_if2 107 99 rfl (by decide) (by first | assumption | exact ⟨by omega, by omega⟩) ⟨by decide, by decide⟩ (fun h4 => ?_) (fun h4 => ?_)
          · have h4 : ((ch.toNat : Nat) : Int) = 43 := h4
            have hq1 : 1 ≤ zpc (ch :: tx.toList.drop (k + 1)) := by
              show 1 ≤ (if _ then 1 else 0) + _
              rw [if_pos (by omega)]
              omega
            refine az_to 6 (pc2 := 116) (lv2 := [some (az_r 25), some (az_x (fi + 1)), some (az_i (((i : Nat) : Int))), some (az_i ((((4 * c + p) : Nat) : Int))), some (az_i (((k : Nat) : Int))), some (az_i (((ch.toNat : Nat) : Int))), some (az_i (1))]) (st2 := [az_i (1), az_i (((i : Nat) : Int)), az_r 25, az_i ((((4 * c + p) : Nat) : Int)), az_r 28]) (s2 := u) rfl ?_
            refine az_clv (v := some (az_i (zvl T i 1))) (t := u) (m2 := am_m_X1_valueAt) (as := [az_r 25, az_i (((i : Nat) : Int)), az_i (1)]) (rest := [az_i ((((4 * c + p) : Nat) : Int)), az_r 28]) 119 rfl rfl ⟨rfl, rfl⟩ (by omega) (zs_X1_valueAt_1 (s := u) (i := i) (by omega) hTu (by omega)) ?_
            refine az_to 0 (pc2 := 119) (lv2 := [some (az_r 25), some (az_x (fi + 1)), some (az_i (((i : Nat) : Int))), some (az_i ((((4 * c + p) : Nat) : Int))), some (az_i (((k : Nat) : Int))), some (az_i (((ch.toNat : Nat) : Int))), some (az_i (1))]) (st2 := [az_i (zvl T i 1), az_i ((((4 * c + p) : Nat) : Int)), az_r 28]) (s2 := u) rfl ?_
            refine az_clv (v := none) (t := am_up u 29 (4 * c + p) (zvl T i 1)) (m2 := am_m_X5_put) (as := [az_r 28, az_i ((((4 * c + p) : Nat) : Int)), az_i (zvl T i 1)]) (rest := []) 122 rfl rfl ⟨rfl, rfl⟩ (by omega) (zs_X5_put_28 (s := u) (k := (4 * c + p)) (v := (zvl T i 1)) (by omega) (by omega)) ?_
            refine az_to 0 (pc2 := 122) (lv2 := [some (az_r 25), some (az_x (fi + 1)), some (az_i (((i : Nat) : Int))), some (az_i ((((4 * c + p) : Nat) : Int))), some (az_i (((k : Nat) : Int))), some (az_i (((ch.toNat : Nat) : Int))), some (az_i (1))]) (st2 := []) (s2 := am_up u 29 (4 * c + p) (zvl T i 1)) rfl ?_
            refine az_to 7 (pc2 := 15) (lv2 := [some (az_r 25), some (az_x (fi + 1)), some (az_i ((((i : Nat) : Int) + 1))), some (az_i (((((4 * c + p) : Nat) : Int) + 1))), some (az_i ((((k : Nat) : Int) + 1))), some (az_i (((ch.toNat : Nat) : Int))), some (az_i (1))]) (st2 := []) (s2 := am_up u 29 (4 * c + p) (zvl T i 1)) rfl ?_
            have hw : zwd T ch.toNat i = 1 := by unfold zwd; rw [if_neg (by omega)]
            have hz : zms T (ch :: tx.toList.drop (k + 1)) i = ((zms T (tx.toList.drop (k + 1)) (i + 1)).1, (zms T (tx.toList.drop (k + 1)) (i + 1)).2.1, ([zvl T i 1]) ++ (zms T (tx.toList.drop (k + 1)) (i + 1)).2.2) := by
              show (if zft _ _ then _ else _) = _
              rw [if_pos (by assumption), hw, if_pos (by omega)]
            have hq : zpc (ch :: tx.toList.drop (k + 1)) = 1 + zpc (tx.toList.drop (k + 1)) := by
              show (if _ then 1 else 0) + _ = _
              rw [if_pos (by omega)]
            rw [hz] at hL2
            rw [hq] at hL3
            exact ih _ (by omega) (k + 1) (i + 1) (p + 1) (am_up u 29 (4 * c + p) (zvl T i 1)) _ _ rfl (by omega) (by omega) (by omega) ⟨(L ++ [zvl T i 1]), by rw [List.length_append, hL1]; rfl, by rw [hL2]; simp only [List.append_assoc], by omega, fun q hq2 => by
              simp only [am_up, if_true]
              by_cases q9 : q = p
              · rw [q9, if_pos (by omega), List.getD_eq_getElem?_getD, List.getElem?_append_right (by omega), hL1, Nat.sub_self]; rfl
              · rw [if_neg (by omega), List.getD_eq_getElem?_getD, List.getElem?_append_left (by omega), ← List.getD_eq_getElem?_getD]; exact hL4 q (by omega)⟩ (fun j hj => by simp only [am_up, if_true]; rw [if_neg (by omega)]; exact g4 j hj) (fun j hj => by rw [← g5 j hj]; funext b; simp only [am_up, if_neg hj])
          · have h4 : ¬ (((ch.toNat : Nat) : Int) = 43) := h4
            refine az_to 1 (pc2 := 101) (lv2 := [some (az_r 25), some (az_x (fi + 1)), some (az_i (((i : Nat) : Int))), some (az_i ((((4 * c + p) : Nat) : Int))), some (az_i (((k : Nat) : Int))), some (az_i (((ch.toNat : Nat) : Int))), some (az_i (1))]) (st2 := [az_i (((ch.toNat : Nat) : Int))]) (s2 := u) rfl ?_
            refine az_clv (v := some (az_i (az_b (zdg (((ch.toNat : Nat) : Int)))))) (t := u) (m2 := am_m_X1_isDigit) (as := [az_i (((ch.toNat : Nat) : Int))]) (rest := []) 104 rfl rfl ⟨rfl, rfl⟩ (by omega) (zs_X1_isDigit (s := u) (c := (((ch.toNat : Nat) : Int))) (by omega) (by first | assumption | exact ⟨by omega, by omega⟩)) ?_
            refine az_to 0 (pc2 := 104) (lv2 := [some (az_r 25), some (az_x (fi + 1)), some (az_i (((i : Nat) : Int))), some (az_i ((((4 * c + p) : Nat) : Int))), some (az_i (((k : Nat) : Int))), some (az_i (((ch.toNat : Nat) : Int))), some (az_i (1))]) (st2 := [az_i (az_b (zdg (((ch.toNat : Nat) : Int))))]) (s2 := u) rfl ?_
            refine az_ifbe 125 107 rfl (by decide) (fun h5 => ?_) (fun h5 => ?_)
            · have h5 : ¬ (zdg (((ch.toNat : Nat) : Int))) := h5
              refine az_to 6 (pc2 := 15) (lv2 := [some (az_r 25), some (az_x (fi + 1)), some (az_i ((((i : Nat) : Int) + 1))), some (az_i ((((4 * c + p) : Nat) : Int))), some (az_i ((((k : Nat) : Int) + 1))), some (az_i (((ch.toNat : Nat) : Int))), some (az_i (1))]) (st2 := []) (s2 := u) rfl ?_
              have hw : zwd T ch.toNat i = 1 := by unfold zwd; rw [if_neg (by omega)]
              have hz : zms T (ch :: tx.toList.drop (k + 1)) i = ((zms T (tx.toList.drop (k + 1)) (i + 1)).1, (zms T (tx.toList.drop (k + 1)) (i + 1)).2.1, ([]) ++ (zms T (tx.toList.drop (k + 1)) (i + 1)).2.2) := by
                show (if zft _ _ then _ else _) = _
                rw [if_pos (by assumption), hw, if_neg (by omega)]
              have hq : zpc (ch :: tx.toList.drop (k + 1)) = 0 + zpc (tx.toList.drop (k + 1)) := by
                show (if _ then 1 else 0) + _ = _
                rw [if_neg (by omega)]
              rw [hz] at hL2
              rw [hq] at hL3
              exact ih _ (by omega) (k + 1) (i + 1) p u _ _ rfl (by omega) (by omega) (by omega) ⟨L, hL1, by rw [hL2]; rfl, by omega, hL4⟩ (g4) (g5)
            · have h5 : zdg (((ch.toNat : Nat) : Int)) := h5
              have hq1 : 1 ≤ zpc (ch :: tx.toList.drop (k + 1)) := by
                show 1 ≤ (if _ then 1 else 0) + _
                rw [if_pos (by omega)]
                omega
              refine az_to 6 (pc2 := 116) (lv2 := [some (az_r 25), some (az_x (fi + 1)), some (az_i (((i : Nat) : Int))), some (az_i ((((4 * c + p) : Nat) : Int))), some (az_i (((k : Nat) : Int))), some (az_i (((ch.toNat : Nat) : Int))), some (az_i (1))]) (st2 := [az_i (1), az_i (((i : Nat) : Int)), az_r 25, az_i ((((4 * c + p) : Nat) : Int)), az_r 28]) (s2 := u) rfl ?_
              refine az_clv (v := some (az_i (zvl T i 1))) (t := u) (m2 := am_m_X1_valueAt) (as := [az_r 25, az_i (((i : Nat) : Int)), az_i (1)]) (rest := [az_i ((((4 * c + p) : Nat) : Int)), az_r 28]) 119 rfl rfl ⟨rfl, rfl⟩ (by omega) (zs_X1_valueAt_1 (s := u) (i := i) (by omega) hTu (by omega)) ?_
              refine az_to 0 (pc2 := 119) (lv2 := [some (az_r 25), some (az_x (fi + 1)), some (az_i (((i : Nat) : Int))), some (az_i ((((4 * c + p) : Nat) : Int))), some (az_i (((k : Nat) : Int))), some (az_i (((ch.toNat : Nat) : Int))), some (az_i (1))]) (st2 := [az_i (zvl T i 1), az_i ((((4 * c + p) : Nat) : Int)), az_r 28]) (s2 := u) rfl ?_
              refine az_clv (v := none) (t := am_up u 29 (4 * c + p) (zvl T i 1)) (m2 := am_m_X5_put) (as := [az_r 28, az_i ((((4 * c + p) : Nat) : Int)), az_i (zvl T i 1)]) (rest := []) 122 rfl rfl ⟨rfl, rfl⟩ (by omega) (zs_X5_put_28 (s := u) (k := (4 * c + p)) (v := (zvl T i 1)) (by omega) (by omega)) ?_
              refine az_to 0 (pc2 := 122) (lv2 := [some (az_r 25), some (az_x (fi + 1)), some (az_i (((i : Nat) : Int))), some (az_i ((((4 * c + p) : Nat) : Int))), some (az_i (((k : Nat) : Int))), some (az_i (((ch.toNat : Nat) : Int))), some (az_i (1))]) (st2 := []) (s2 := am_up u 29 (4 * c + p) (zvl T i 1)) rfl ?_
              refine az_to 7 (pc2 := 15) (lv2 := [some (az_r 25), some (az_x (fi + 1)), some (az_i ((((i : Nat) : Int) + 1))), some (az_i (((((4 * c + p) : Nat) : Int) + 1))), some (az_i ((((k : Nat) : Int) + 1))), some (az_i (((ch.toNat : Nat) : Int))), some (az_i (1))]) (st2 := []) (s2 := am_up u 29 (4 * c + p) (zvl T i 1)) rfl ?_
              have hw : zwd T ch.toNat i = 1 := by unfold zwd; rw [if_neg (by omega)]
              have hz : zms T (ch :: tx.toList.drop (k + 1)) i = ((zms T (tx.toList.drop (k + 1)) (i + 1)).1, (zms T (tx.toList.drop (k + 1)) (i + 1)).2.1, ([zvl T i 1]) ++ (zms T (tx.toList.drop (k + 1)) (i + 1)).2.2) := by
                show (if zft _ _ then _ else _) = _
                rw [if_pos (by assumption), hw, if_pos (by omega)]
              have hq : zpc (ch :: tx.toList.drop (k + 1)) = 1 + zpc (tx.toList.drop (k + 1)) := by
                show (if _ then 1 else 0) + _ = _
                rw [if_pos (by omega)]
              rw [hz] at hL2
              rw [hq] at hL3
              exact ih _ (by omega) (k + 1) (i + 1) (p + 1) (am_up u 29 (4 * c + p) (zvl T i 1)) _ _ rfl (by omega) (by omega) (by omega) ⟨(L ++ [zvl T i 1]), by rw [List.length_append, hL1]; rfl, by rw [hL2]; simp only [List.append_assoc], by omega, fun q hq2 => by
                simp only [am_up, if_true]
                by_cases q9 : q = p
                · rw [q9, if_pos (by omega), List.getD_eq_getElem?_getD, List.getElem?_append_right (by omega), hL1, Nat.sub_self]; rfl
                · rw [if_neg (by omega), List.getD_eq_getElem?_getD, List.getElem?_append_left (by omega), ← List.getD_eq_getElem?_getD]; exact hL4 q (by omega)⟩ (fun j hj => by simp only [am_up, if_true]; rw [if_neg (by omega)]; exact g4 j hj) (fun j hj => by rw [← g5 j hj]; funext b; simp only [am_up, if_neg hj])
        · have h3 : ((ch.toNat : Nat) : Int) = 57 := Decidable.not_not.mp h3
          refine az_to 5 (pc2 := 76) (lv2 := [some (az_r 25), some (az_x (fi + 1)), some (az_i (((i : Nat) : Int))), some (az_i ((((4 * c + p) : Nat) : Int))), some (az_i (((k : Nat) : Int))), some (az_i (((ch.toNat : Nat) : Int))), x6]) (st2 := [az_i ((((i : Nat) : Int) + 1)), az_r 22]) (s2 := u) rfl ?_
          refine az_clv (v := some (az_i (T (i + 1)))) (t := u) (m2 := am_m_X3_signAt) (as := [az_r 22, az_i ((((i : Nat) : Int) + 1))]) (rest := []) 79 rfl rfl ⟨rfl, rfl⟩ (by omega) (zs_X3_signAt_22 (s := u) (k := (i + 1)) (by omega) hTu (by omega)) ?_
          refine az_to 0 (pc2 := 79) (lv2 := [some (az_r 25), some (az_x (fi + 1)), some (az_i (((i : Nat) : Int))), some (az_i ((((4 * c + p) : Nat) : Int))), some (az_i (((k : Nat) : Int))), some (az_i (((ch.toNat : Nat) : Int))), x6]) (st2 := [az_i (T (i + 1))]) (s2 := u) rfl ?_
          refine az_clv (v := some (az_i (az_b (zdg (T (i + 1)))))) (t := u) (m2 := am_m_X1_isDigit) (as := [az_i (T (i + 1))]) (rest := []) 82 rfl rfl ⟨rfl, rfl⟩ (by omega) (zs_X1_isDigit (s := u) (c := (T (i + 1))) (by omega) (by first | assumption | exact ⟨by omega, by omega⟩)) ?_
          refine az_to 0 (pc2 := 82) (lv2 := [some (az_r 25), some (az_x (fi + 1)), some (az_i (((i : Nat) : Int))), some (az_i ((((4 * c + p) : Nat) : Int))), some (az_i (((k : Nat) : Int))), some (az_i (((ch.toNat : Nat) : Int))), x6]) (st2 := [az_i (az_b (zdg (T (i + 1))))]) (s2 := u) rfl ?_
          refine az_ifbe 89 85 rfl (by decide) (fun h6 => ?_) (fun h6 => ?_)
          · have h6 : ¬ (zdg (T (i + 1))) := h6
            refine az_to 4 (pc2 := 96) (lv2 := [some (az_r 25), some (az_x (fi + 1)), some (az_i (((i : Nat) : Int))), some (az_i ((((4 * c + p) : Nat) : Int))), some (az_i (((k : Nat) : Int))), some (az_i (((ch.toNat : Nat) : Int))), some (az_i (1))]) (st2 := [az_i (43), az_i (((ch.toNat : Nat) : Int))]) (s2 := u) rfl ?_
            refine az_if2 107 99 rfl (by decide) (by first | assumption | exact ⟨by omega, by omega⟩) ⟨by decide, by decide⟩ (fun h7 => ?_) (fun h7 => ?_)
            · have h7 : ((ch.toNat : Nat) : Int) = 43 := h7
              have hq1 : 1 ≤ zpc (ch :: tx.toList.drop (k + 1)) := by
                show 1 ≤ (if _ then 1 else 0) + _
                rw [if_pos (by omega)]
                omega
              refine az_to 6 (pc2 := 116) (lv2 := [some (az_r 25), some (az_x (fi + 1)), some (az_i (((i : Nat) : Int))), some (az_i ((((4 * c + p) : Nat) : Int))), some (az_i (((k : Nat) : Int))), some (az_i (((ch.toNat : Nat) : Int))), some (az_i (1))]) (st2 := [az_i (1), az_i (((i : Nat) : Int)), az_r 25, az_i ((((4 * c + p) : Nat) : Int)), az_r 28]) (s2 := u) rfl ?_
              refine az_clv (v := some (az_i (zvl T i 1))) (t := u) (m2 := am_m_X1_valueAt) (as := [az_r 25, az_i (((i : Nat) : Int)), az_i (1)]) (rest := [az_i ((((4 * c + p) : Nat) : Int)), az_r 28]) 119 rfl rfl ⟨rfl, rfl⟩ (by omega) (zs_X1_valueAt_1 (s := u) (i := i) (by omega) hTu (by omega)) ?_
              refine az_to 0 (pc2 := 119) (lv2 := [some (az_r 25), some (az_x (fi + 1)), some (az_i (((i : Nat) : Int))), some (az_i ((((4 * c + p) : Nat) : Int))), some (az_i (((k : Nat) : Int))), some (az_i (((ch.toNat : Nat) : Int))), some (az_i (1))]) (st2 := [az_i (zvl T i 1), az_i ((((4 * c + p) : Nat) : Int)), az_r 28]) (s2 := u) rfl ?_
              refine az_clv (v := none) (t := am_up u 29 (4 * c + p) (zvl T i 1)) (m2 := am_m_X5_put) (as := [az_r 28, az_i ((((4 * c + p) : Nat) : Int)), az_i (zvl T i 1)]) (rest := []) 122 rfl rfl ⟨rfl, rfl⟩ (by omega) (zs_X5_put_28 (s := u) (k := (4 * c + p)) (v := (zvl T i 1)) (by omega) (by omega)) ?_
              refine az_to 0 (pc2 := 122) (lv2 := [some (az_r 25), some (az_x (fi + 1)), some (az_i (((i : Nat) : Int))), some (az_i ((((4 * c + p) : Nat) : Int))), some (az_i (((k : Nat) : Int))), some (az_i (((ch.toNat : Nat) : Int))), some (az_i (1))]) (st2 := []) (s2 := am_up u 29 (4 * c + p) (zvl T i 1)) rfl ?_
              refine az_to 7 (pc2 := 15) (lv2 := [some (az_r 25), some (az_x (fi + 1)), some (az_i ((((i : Nat) : Int) + 1))), some (az_i (((((4 * c + p) : Nat) : Int) + 1))), some (az_i ((((k : Nat) : Int) + 1))), some (az_i (((ch.toNat : Nat) : Int))), some (az_i (1))]) (st2 := []) (s2 := am_up u 29 (4 * c + p) (zvl T i 1)) rfl ?_
              have hw : zwd T ch.toNat i = 1 := by unfold zwd; rw [if_neg (by omega)]
              have hz : zms T (ch :: tx.toList.drop (k + 1)) i = ((zms T (tx.toList.drop (k + 1)) (i + 1)).1, (zms T (tx.toList.drop (k + 1)) (i + 1)).2.1, ([zvl T i 1]) ++ (zms T (tx.toList.drop (k + 1)) (i + 1)).2.2) := by
                show (if zft _ _ then _ else _) = _
                rw [if_pos (by assumption), hw, if_pos (by omega)]
              have hq : zpc (ch :: tx.toList.drop (k + 1)) = 1 + zpc (tx.toList.drop (k + 1)) := by
                show (if _ then 1 else 0) + _ = _
                rw [if_pos (by omega)]
              rw [hz] at hL2
              rw [hq] at hL3
              exact ih _ (by omega) (k + 1) (i + 1) (p + 1) (am_up u 29 (4 * c + p) (zvl T i 1)) _ _ rfl (by omega) (by omega) (by omega) ⟨(L ++ [zvl T i 1]), by rw [List.length_append, hL1]; rfl, by rw [hL2]; simp only [List.append_assoc], by omega, fun q hq2 => by
                simp only [am_up, if_true]
                by_cases q9 : q = p
                · rw [q9, if_pos (by omega), List.getD_eq_getElem?_getD, List.getElem?_append_right (by omega), hL1, Nat.sub_self]; rfl
                · rw [if_neg (by omega), List.getD_eq_getElem?_getD, List.getElem?_append_left (by omega), ← List.getD_eq_getElem?_getD]; exact hL4 q (by omega)⟩ (fun j hj => by simp only [am_up, if_true]; rw [if_neg (by omega)]; exact g4 j hj) (fun j hj => by rw [← g5 j hj]; funext b; simp only [am_up, if_neg hj])
            · have h7 : ¬ (((ch.toNat : Nat) : Int) = 43) := h7
              refine az_to 1 (pc2 := 101) (lv2 := [some (az_r 25), some (az_x (fi + 1)), some (az_i (((i : Nat) : Int))), some (az_i ((((4 * c + p) : Nat) : Int))), some (az_i (((k : Nat) : Int))), some (az_i (((ch.toNat : Nat) : Int))), some (az_i (1))]) (st2 := [az_i (((ch.toNat : Nat) : Int))]) (s2 := u) rfl ?_
              refine az_clv (v := some (az_i (az_b (zdg (((ch.toNat : Nat) : Int)))))) (t := u) (m2 := am_m_X1_isDigit) (as := [az_i (((ch.toNat : Nat) : Int))]) (rest := []) 104 rfl rfl ⟨rfl, rfl⟩ (by omega) (zs_X1_isDigit (s := u) (c := (((ch.toNat : Nat) : Int))) (by omega) (by first | assumption | exact ⟨by omega, by omega⟩)) ?_
              refine az_to 0 (pc2 := 104) (lv2 := [some (az_r 25), some (az_x (fi + 1)), some (az_i (((i : Nat) : Int))), some (az_i ((((4 * c + p) : Nat) : Int))), some (az_i (((k : Nat) : Int))), some (az_i (((ch.toNat : Nat) : Int))), some (az_i (1))]) (st2 := [az_i (az_b (zdg (((ch.toNat : Nat) : Int))))]) (s2 := u) rfl ?_
              refine az_ifbe 125 107 rfl (by decide) (fun h8 => ?_) (fun h8 => ?_)
              · have h8 : ¬ (zdg (((ch.toNat : Nat) : Int))) := h8
                refine az_to 6 (pc2 := 15) (lv2 := [some (az_r 25), some (az_x (fi + 1)), some (az_i ((((i : Nat) : Int) + 1))), some (az_i ((((4 * c + p) : Nat) : Int))), some (az_i ((((k : Nat) : Int) + 1))), some (az_i (((ch.toNat : Nat) : Int))), some (az_i (1))]) (st2 := []) (s2 := u) rfl ?_
                have hw : zwd T ch.toNat i = 1 := by unfold zwd; rw [if_neg (by omega)]
                have hz : zms T (ch :: tx.toList.drop (k + 1)) i = ((zms T (tx.toList.drop (k + 1)) (i + 1)).1, (zms T (tx.toList.drop (k + 1)) (i + 1)).2.1, ([]) ++ (zms T (tx.toList.drop (k + 1)) (i + 1)).2.2) := by
                  show (if zft _ _ then _ else _) = _
                  rw [if_pos (by assumption), hw, if_neg (by omega)]
                have hq : zpc (ch :: tx.toList.drop (k + 1)) = 0 + zpc (tx.toList.drop (k + 1)) := by
                  show (if _ then 1 else 0) + _ = _
                  rw [if_neg (by omega)]
                rw [hz] at hL2
                rw [hq] at hL3
                exact ih _ (by omega) (k + 1) (i + 1) p u _ _ rfl (by omega) (by omega) (by omega) ⟨L, hL1, by rw [hL2]; rfl, by omega, hL4⟩ (g4) (g5)
              · have h8 : zdg (((ch.toNat : Nat) : Int)) := h8
                have hq1 : 1 ≤ zpc (ch :: tx.toList.drop (k + 1)) := by
                  show 1 ≤ (if _ then 1 else 0) + _
                  rw [if_pos (by omega)]
                  omega
                refine az_to 6 (pc2 := 116) (lv2 := [some (az_r 25), some (az_x (fi + 1)), some (az_i (((i : Nat) : Int))), some (az_i ((((4 * c + p) : Nat) : Int))), some (az_i (((k : Nat) : Int))), some (az_i (((ch.toNat : Nat) : Int))), some (az_i (1))]) (st2 := [az_i (1), az_i (((i : Nat) : Int)), az_r 25, az_i ((((4 * c + p) : Nat) : Int)), az_r 28]) (s2 := u) rfl ?_
                refine az_clv (v := some (az_i (zvl T i 1))) (t := u) (m2 := am_m_X1_valueAt) (as := [az_r 25, az_i (((i : Nat) : Int)), az_i (1)]) (rest := [az_i ((((4 * c + p) : Nat) : Int)), az_r 28]) 119 rfl rfl ⟨rfl, rfl⟩ (by omega) (zs_X1_valueAt_1 (s := u) (i := i) (by omega) hTu (by omega)) ?_
                refine az_to 0 (pc2 := 119) (lv2 := [some (az_r 25), some (az_x (fi + 1)), some (az_i (((i : Nat) : Int))), some (az_i ((((4 * c + p) : Nat) : Int))), some (az_i (((k : Nat) : Int))), some (az_i (((ch.toNat : Nat) : Int))), some (az_i (1))]) (st2 := [az_i (zvl T i 1), az_i ((((4 * c + p) : Nat) : Int)), az_r 28]) (s2 := u) rfl ?_
                refine az_clv (v := none) (t := am_up u 29 (4 * c + p) (zvl T i 1)) (m2 := am_m_X5_put) (as := [az_r 28, az_i ((((4 * c + p) : Nat) : Int)), az_i (zvl T i 1)]) (rest := []) 122 rfl rfl ⟨rfl, rfl⟩ (by omega) (zs_X5_put_28 (s := u) (k := (4 * c + p)) (v := (zvl T i 1)) (by omega) (by omega)) ?_
                refine az_to 0 (pc2 := 122) (lv2 := [some (az_r 25), some (az_x (fi + 1)), some (az_i (((i : Nat) : Int))), some (az_i ((((4 * c + p) : Nat) : Int))), some (az_i (((k : Nat) : Int))), some (az_i (((ch.toNat : Nat) : Int))), some (az_i (1))]) (st2 := []) (s2 := am_up u 29 (4 * c + p) (zvl T i 1)) rfl ?_
                refine az_to 7 (pc2 := 15) (lv2 := [some (az_r 25), some (az_x (fi + 1)), some (az_i ((((i : Nat) : Int) + 1))), some (az_i (((((4 * c + p) : Nat) : Int) + 1))), some (az_i ((((k : Nat) : Int) + 1))), some (az_i (((ch.toNat : Nat) : Int))), some (az_i (1))]) (st2 := []) (s2 := am_up u 29 (4 * c + p) (zvl T i 1)) rfl ?_
                have hw : zwd T ch.toNat i = 1 := by unfold zwd; rw [if_neg (by omega)]
                have hz : zms T (ch :: tx.toList.drop (k + 1)) i = ((zms T (tx.toList.drop (k + 1)) (i + 1)).1, (zms T (tx.toList.drop (k + 1)) (i + 1)).2.1, ([zvl T i 1]) ++ (zms T (tx.toList.drop (k + 1)) (i + 1)).2.2) := by
                  show (if zft _ _ then _ else _) = _
                  rw [if_pos (by assumption), hw, if_pos (by omega)]
                have hq : zpc (ch :: tx.toList.drop (k + 1)) = 1 + zpc (tx.toList.drop (k + 1)) := by
                  show (if _ then 1 else 0) + _ = _
                  rw [if_pos (by omega)]
                rw [hz] at hL2
                rw [hq] at hL3
                exact ih _ (by omega) (k + 1) (i + 1) (p + 1) (am_up u 29 (4 * c + p) (zvl T i 1)) _ _ rfl (by omega) (by omega) (by omega) ⟨(L ++ [zvl T i 1]), by rw [List.length_append, hL1]; rfl, by rw [hL2]; simp only [List.append_assoc], by omega, fun q hq2 => by
                  simp only [am_up, if_true]
                  by_cases q9 : q = p
                  · rw [q9, if_pos (by omega), List.getD_eq_getElem?_getD, List.getElem?_append_right (by omega), hL1, Nat.sub_self]; rfl
                  · rw [if_neg (by omega), List.getD_eq_getElem?_getD, List.getElem?_append_left (by omega), ← List.getD_eq_getElem?_getD]; exact hL4 q (by omega)⟩ (fun j hj => by simp only [am_up, if_true]; rw [if_neg (by omega)]; exact g4 j hj) (fun j hj => by rw [← g5 j hj]; funext b; simp only [am_up, if_neg hj])
          · have h6 : zdg (T (i + 1)) := h6
            refine az_to 5 (pc2 := 96) (lv2 := [some (az_r 25), some (az_x (fi + 1)), some (az_i (((i : Nat) : Int))), some (az_i ((((4 * c + p) : Nat) : Int))), some (az_i (((k : Nat) : Int))), some (az_i (((ch.toNat : Nat) : Int))), some (az_i (2))]) (st2 := [az_i (43), az_i (((ch.toNat : Nat) : Int))]) (s2 := u) rfl ?_
            refine az_if2 107 99 rfl (by decide) (by first | assumption | exact ⟨by omega, by omega⟩) ⟨by decide, by decide⟩ (fun h9 => ?_) (fun h9 => ?_)
            · have h9 : ((ch.toNat : Nat) : Int) = 43 := h9
              have hq1 : 1 ≤ zpc (ch :: tx.toList.drop (k + 1)) := by
                show 1 ≤ (if _ then 1 else 0) + _
                rw [if_pos (by omega)]
                omega
              refine az_to 6 (pc2 := 116) (lv2 := [some (az_r 25), some (az_x (fi + 1)), some (az_i (((i : Nat) : Int))), some (az_i ((((4 * c + p) : Nat) : Int))), some (az_i (((k : Nat) : Int))), some (az_i (((ch.toNat : Nat) : Int))), some (az_i (2))]) (st2 := [az_i (2), az_i (((i : Nat) : Int)), az_r 25, az_i ((((4 * c + p) : Nat) : Int)), az_r 28]) (s2 := u) rfl ?_
              refine az_clv (v := some (az_i (zvl T i 2))) (t := u) (m2 := am_m_X1_valueAt) (as := [az_r 25, az_i (((i : Nat) : Int)), az_i (2)]) (rest := [az_i ((((4 * c + p) : Nat) : Int)), az_r 28]) 119 rfl rfl ⟨rfl, rfl⟩ (by omega) (zs_X1_valueAt_2 (s := u) (i := i) (by omega) hTu (by omega)) ?_
              refine az_to 0 (pc2 := 119) (lv2 := [some (az_r 25), some (az_x (fi + 1)), some (az_i (((i : Nat) : Int))), some (az_i ((((4 * c + p) : Nat) : Int))), some (az_i (((k : Nat) : Int))), some (az_i (((ch.toNat : Nat) : Int))), some (az_i (2))]) (st2 := [az_i (zvl T i 2), az_i ((((4 * c + p) : Nat) : Int)), az_r 28]) (s2 := u) rfl ?_
              refine az_clv (v := none) (t := am_up u 29 (4 * c + p) (zvl T i 2)) (m2 := am_m_X5_put) (as := [az_r 28, az_i ((((4 * c + p) : Nat) : Int)), az_i (zvl T i 2)]) (rest := []) 122 rfl rfl ⟨rfl, rfl⟩ (by omega) (zs_X5_put_28 (s := u) (k := (4 * c + p)) (v := (zvl T i 2)) (by omega) (by omega)) ?_
              refine az_to 0 (pc2 := 122) (lv2 := [some (az_r 25), some (az_x (fi + 1)), some (az_i (((i : Nat) : Int))), some (az_i ((((4 * c + p) : Nat) : Int))), some (az_i (((k : Nat) : Int))), some (az_i (((ch.toNat : Nat) : Int))), some (az_i (2))]) (st2 := []) (s2 := am_up u 29 (4 * c + p) (zvl T i 2)) rfl ?_
              refine az_to 7 (pc2 := 15) (lv2 := [some (az_r 25), some (az_x (fi + 1)), some (az_i ((((i : Nat) : Int) + 2))), some (az_i (((((4 * c + p) : Nat) : Int) + 1))), some (az_i ((((k : Nat) : Int) + 1))), some (az_i (((ch.toNat : Nat) : Int))), some (az_i (2))]) (st2 := []) (s2 := am_up u 29 (4 * c + p) (zvl T i 2)) rfl ?_
              have hw : zwd T ch.toNat i = 2 := by unfold zwd; rw [if_pos ⟨by omega, by omega⟩]
              have hz : zms T (ch :: tx.toList.drop (k + 1)) i = ((zms T (tx.toList.drop (k + 1)) (i + 2)).1, (zms T (tx.toList.drop (k + 1)) (i + 2)).2.1, ([zvl T i 2]) ++ (zms T (tx.toList.drop (k + 1)) (i + 2)).2.2) := by
                show (if zft _ _ then _ else _) = _
                rw [if_pos (by assumption), hw, if_pos (by omega)]
              have hq : zpc (ch :: tx.toList.drop (k + 1)) = 1 + zpc (tx.toList.drop (k + 1)) := by
                show (if _ then 1 else 0) + _ = _
                rw [if_pos (by omega)]
              rw [hz] at hL2
              rw [hq] at hL3
              exact ih _ (by omega) (k + 1) (i + 2) (p + 1) (am_up u 29 (4 * c + p) (zvl T i 2)) _ _ rfl (by omega) (by omega) (by omega) ⟨(L ++ [zvl T i 2]), by rw [List.length_append, hL1]; rfl, by rw [hL2]; simp only [List.append_assoc], by omega, fun q hq2 => by
                simp only [am_up, if_true]
                by_cases q9 : q = p
                · rw [q9, if_pos (by omega), List.getD_eq_getElem?_getD, List.getElem?_append_right (by omega), hL1, Nat.sub_self]; rfl
                · rw [if_neg (by omega), List.getD_eq_getElem?_getD, List.getElem?_append_left (by omega), ← List.getD_eq_getElem?_getD]; exact hL4 q (by omega)⟩ (fun j hj => by simp only [am_up, if_true]; rw [if_neg (by omega)]; exact g4 j hj) (fun j hj => by rw [← g5 j hj]; funext b; simp only [am_up, if_neg hj])
            · have h9 : ¬ (((ch.toNat : Nat) : Int) = 43) := h9
              refine az_to 1 (pc2 := 101) (lv2 := [some (az_r 25), some (az_x (fi + 1)), some (az_i (((i : Nat) : Int))), some (az_i ((((4 * c + p) : Nat) : Int))), some (az_i (((k : Nat) : Int))), some (az_i (((ch.toNat : Nat) : Int))), some (az_i (2))]) (st2 := [az_i (((ch.toNat : Nat) : Int))]) (s2 := u) rfl ?_
              refine az_clv (v := some (az_i (az_b (zdg (((ch.toNat : Nat) : Int)))))) (t := u) (m2 := am_m_X1_isDigit) (as := [az_i (((ch.toNat : Nat) : Int))]) (rest := []) 104 rfl rfl ⟨rfl, rfl⟩ (by omega) (zs_X1_isDigit (s := u) (c := (((ch.toNat : Nat) : Int))) (by omega) (by first | assumption | exact ⟨by omega, by omega⟩)) ?_
              refine az_to 0 (pc2 := 104) (lv2 := [some (az_r 25), some (az_x (fi + 1)), some (az_i (((i : Nat) : Int))), some (az_i ((((4 * c + p) : Nat) : Int))), some (az_i (((k : Nat) : Int))), some (az_i (((ch.toNat : Nat) : Int))), some (az_i (2))]) (st2 := [az_i (az_b (zdg (((ch.toNat : Nat) : Int))))]) (s2 := u) rfl ?_
              refine az_ifbe 125 107 rfl (by decide) (fun h10 => ?_) (fun h10 => ?_)
              · have h10 : ¬ (zdg (((ch.toNat : Nat) : Int))) := h10
                refine az_to 6 (pc2 := 15) (lv2 := [some (az_r 25), some (az_x (fi + 1)), some (az_i ((((i : Nat) : Int) + 2))), some (az_i ((((4 * c + p) : Nat) : Int))), some (az_i ((((k : Nat) : Int) + 1))), some (az_i (((ch.toNat : Nat) : Int))), some (az_i (2))]) (st2 := []) (s2 := u) rfl ?_
                have hw : zwd T ch.toNat i = 2 := by unfold zwd; rw [if_pos ⟨by omega, by omega⟩]
                have hz : zms T (ch :: tx.toList.drop (k + 1)) i = ((zms T (tx.toList.drop (k + 1)) (i + 2)).1, (zms T (tx.toList.drop (k + 1)) (i + 2)).2.1, ([]) ++ (zms T (tx.toList.drop (k + 1)) (i + 2)).2.2) := by
                  show (if zft _ _ then _ else _) = _
                  rw [if_pos (by assumption), hw, if_neg (by omega)]
                have hq : zpc (ch :: tx.toList.drop (k + 1)) = 0 + zpc (tx.toList.drop (k + 1)) := by
                  show (if _ then 1 else 0) + _ = _
                  rw [if_neg (by omega)]
                rw [hz] at hL2
                rw [hq] at hL3
                exact ih _ (by omega) (k + 1) (i + 2) p u _ _ rfl (by omega) (by omega) (by omega) ⟨L, hL1, by rw [hL2]; rfl, by omega, hL4⟩ (g4) (g5)
              · have h10 : zdg (((ch.toNat : Nat) : Int)) := h10
                have hq1 : 1 ≤ zpc (ch :: tx.toList.drop (k + 1)) := by
                  show 1 ≤ (if _ then 1 else 0) + _
                  rw [if_pos (by omega)]
                  omega
                refine az_to 6 (pc2 := 116) (lv2 := [some (az_r 25), some (az_x (fi + 1)), some (az_i (((i : Nat) : Int))), some (az_i ((((4 * c + p) : Nat) : Int))), some (az_i (((k : Nat) : Int))), some (az_i (((ch.toNat : Nat) : Int))), some (az_i (2))]) (st2 := [az_i (2), az_i (((i : Nat) : Int)), az_r 25, az_i ((((4 * c + p) : Nat) : Int)), az_r 28]) (s2 := u) rfl ?_
                refine az_clv (v := some (az_i (zvl T i 2))) (t := u) (m2 := am_m_X1_valueAt) (as := [az_r 25, az_i (((i : Nat) : Int)), az_i (2)]) (rest := [az_i ((((4 * c + p) : Nat) : Int)), az_r 28]) 119 rfl rfl ⟨rfl, rfl⟩ (by omega) (zs_X1_valueAt_2 (s := u) (i := i) (by omega) hTu (by omega)) ?_
                refine az_to 0 (pc2 := 119) (lv2 := [some (az_r 25), some (az_x (fi + 1)), some (az_i (((i : Nat) : Int))), some (az_i ((((4 * c + p) : Nat) : Int))), some (az_i (((k : Nat) : Int))), some (az_i (((ch.toNat : Nat) : Int))), some (az_i (2))]) (st2 := [az_i (zvl T i 2), az_i ((((4 * c + p) : Nat) : Int)), az_r 28]) (s2 := u) rfl ?_
                refine az_clv (v := none) (t := am_up u 29 (4 * c + p) (zvl T i 2)) (m2 := am_m_X5_put) (as := [az_r 28, az_i ((((4 * c + p) : Nat) : Int)), az_i (zvl T i 2)]) (rest := []) 122 rfl rfl ⟨rfl, rfl⟩ (by omega) (zs_X5_put_28 (s := u) (k := (4 * c + p)) (v := (zvl T i 2)) (by omega) (by omega)) ?_
                refine az_to 0 (pc2 := 122) (lv2 := [some (az_r 25), some (az_x (fi + 1)), some (az_i (((i : Nat) : Int))), some (az_i ((((4 * c + p) : Nat) : Int))), some (az_i (((k : Nat) : Int))), some (az_i (((ch.toNat : Nat) : Int))), some (az_i (2))]) (st2 := []) (s2 := am_up u 29 (4 * c + p) (zvl T i 2)) rfl ?_
                refine az_to 7 (pc2 := 15) (lv2 := [some (az_r 25), some (az_x (fi + 1)), some (az_i ((((i : Nat) : Int) + 2))), some (az_i (((((4 * c + p) : Nat) : Int) + 1))), some (az_i ((((k : Nat) : Int) + 1))), some (az_i (((ch.toNat : Nat) : Int))), some (az_i (2))]) (st2 := []) (s2 := am_up u 29 (4 * c + p) (zvl T i 2)) rfl ?_
                have hw : zwd T ch.toNat i = 2 := by unfold zwd; rw [if_pos ⟨by omega, by omega⟩]
                have hz : zms T (ch :: tx.toList.drop (k + 1)) i = ((zms T (tx.toList.drop (k + 1)) (i + 2)).1, (zms T (tx.toList.drop (k + 1)) (i + 2)).2.1, ([zvl T i 2]) ++ (zms T (tx.toList.drop (k + 1)) (i + 2)).2.2) := by
                  show (if zft _ _ then _ else _) = _
                  rw [if_pos (by assumption), hw, if_pos (by omega)]
                have hq : zpc (ch :: tx.toList.drop (k + 1)) = 1 + zpc (tx.toList.drop (k + 1)) := by
                  show (if _ then 1 else 0) + _ = _
                  rw [if_pos (by omega)]
                rw [hz] at hL2
                rw [hq] at hL3
                exact ih _ (by omega) (k + 1) (i + 2) (p + 1) (am_up u 29 (4 * c + p) (zvl T i 2)) _ _ rfl (by omega) (by omega) (by omega) ⟨(L ++ [zvl T i 2]), by rw [List.length_append, hL1]; rfl, by rw [hL2]; simp only [List.append_assoc], by omega, fun q hq2 => by
                  simp only [am_up, if_true]
                  by_cases q9 : q = p
                  · rw [q9, if_pos (by omega), List.getD_eq_getElem?_getD, List.getElem?_append_right (by omega), hL1, Nat.sub_self]; rfl
                  · rw [if_neg (by omega), List.getD_eq_getElem?_getD, List.getElem?_append_left (by omega), ← List.getD_eq_getElem?_getD]; exact hL4 q (by omega)⟩ (fun j hj => by simp only [am_up, if_true]; rw [if_neg (by omega)]; exact g4 j hj) (fun j hj => by rw [← g5 j hj]; funext b; simp only [am_up, if_neg hj])
      · have h2 : ¬ (zft (((ch.toNat : Nat) : Int)) (T i)) := h2
        refine az_to 3 (pc2 := 53) (lv2 := [some (az_r 25), some (az_x (fi + 1)), some (az_i (((i : Nat) : Int))), some (az_i ((((4 * c + p) : Nat) : Int))), some (az_i (((k : Nat) : Int))), some (az_i (((ch.toNat : Nat) : Int))), x6]) (st2 := [az_i (u 25 5), az_r 25]) (s2 := u) rfl ?_
        refine az_to 0 (pc2 := 53) (lv2 := [some (az_r 25), some (az_x (fi + 1)), some (az_i (((i : Nat) : Int))), some (az_i ((((4 * c + p) : Nat) : Int))), some (az_i (((k : Nat) : Int))), some (az_i (((ch.toNat : Nat) : Int))), x6]) (st2 := [az_i (e0), az_r 25]) (s2 := u) (by rw [show u 25 5 = e0 from (by rw [g9 25 (by decide)]; exact her)]; rfl) ?_
        refine az_to 1 (pc2 := 54) (lv2 := [some (az_r 25), some (az_x (fi + 1)), some (az_i (((i : Nat) : Int))), some (az_i ((((4 * c + p) : Nat) : Int))), some (az_i (((k : Nat) : Int))), some (az_i (((ch.toNat : Nat) : Int))), x6]) (st2 := [az_i (((i : Nat) : Int)), az_i (e0), az_r 25]) (s2 := u) rfl ?_
        refine az_max 57 rfl rfl (by decide) (by first | assumption | exact ⟨by omega, by omega⟩) (by first | assumption | exact ⟨by omega, by omega⟩) ?_
        refine az_to 2 (pc2 := 61) (lv2 := [some (az_r 25), some (az_x (fi + 1)), some (az_i (((i : Nat) : Int))), some (az_i ((((4 * c + p) : Nat) : Int))), some (az_i (((k : Nat) : Int))), some (az_i (((ch.toNat : Nat) : Int))), x6]) (st2 := [az_i (0)]) (s2 := am_up u 25 5 ((if e0 < ((i : Nat) : Int) then ((i : Nat) : Int) else e0))) rfl ?_
        refine az_retB rfl rfl (by first | decide | omega | exact Or.inl rfl | exact Or.inr rfl) ?_
        have hz : zms T tx.toList i0 = (i, false, L ++ []) := by
          rw [hL2]
          show ((if zft _ _ then _ else (i, false, []) : Nat × Bool × List Int).1, (if zft _ _ then _ else (i, false, []) : Nat × Bool × List Int).2.1, L ++ (if zft _ _ then _ else (i, false, []) : Nat × Bool × List Int).2.2) = _
          rw [if_neg (by assumption)]
        rw [hz]
        refine ⟨rfl, ?_, ?_, fun j h4 h5 => ?_, fun h => absurd (show false = true from h) (by decide), fun j hj => g4 j hj, fun j h1 h2 => ?_⟩
        · show u 25 4 = _; rw [g5 25 (by decide)]; exact hat
        · rfl
        · show am_up u 25 5 _ 25 j = _; rw [← g5 25 (by decide)]; simp [am_up, h5]
        · rw [← g5 j h2]; funext b; simp [am_up, h1]
set_option maxRecDepth 100000 in
set_option maxHeartbeats 800000 in
theorem zs_X1_matches {d : Nat} {s : az_S} (hd : 4 ≤ d) {n : Nat} {T : Nat → Int} (hT : zTx s n T) {fi : Nat} {tx : String} (htx : am_sx[fi]? = some tx) (h14 : tx.length ≤ 14) {c i0 : Nat} {e0 : Int} (hc9 : c ≤ 10) (hi0 : i0 ≤ 60) (hc : s 25 3 = ((c : Nat) : Int)) (hat : s 25 4 = ((i0 : Nat) : Int)) (her : s 25 5 = e0) (he0 : 0 ≤ e0 ∧ e0 ≤ 1000) (hpc : zpc tx.toList ≤ 4) : az_R d am_m_X1_matches 0 (az_ini (am_mL am_m_X1_matches) [az_r 25, az_x (fi + 1)]) [] (s) (fun o t => o = .inl (some (az_i (az_b ((zms T tx.toList i0).2.1 = true)))) ∧ t 25 4 = (if (zms T tx.toList i0).2.1 = true then (((zms T tx.toList i0).1 : Nat) : Int) else ((i0 : Nat) : Int)) ∧ t 25 5 = (if (zms T tx.toList i0).2.1 = true then e0 else if e0 < (((zms T tx.toList i0).1 : Nat) : Int) then (((zms T tx.toList i0).1 : Nat) : Int) else e0) ∧ (∀ j, j ≠ 4 → j ≠ 5 → t 25 j = s 25 j) ∧ ((zms T tx.toList i0).2.1 = true → ∀ q, q < (zms T tx.toList i0).2.2.length → t 29 (4 * c + q) = (zms T tx.toList i0).2.2.getD q 0) ∧ (∀ j, j < 4 * c → t 29 j = s 29 j) ∧ ∀ j, j ≠ 25 → j ≠ 29 → t j = s j) := by
  refine az_to 0 (pc2 := 0) (lv2 := [some (az_r 25), some (az_x (fi + 1)), none, none, none, none, none]) (st2 := []) (s2 := s) rfl ?_
  refine az_to 2 (pc2 := 4) (lv2 := [some (az_r 25), some (az_x (fi + 1)), none, none, none, none, none]) (st2 := [az_i (s 25 4)]) (s2 := s) rfl ?_
  refine az_to 0 (pc2 := 4) (lv2 := [some (az_r 25), some (az_x (fi + 1)), none, none, none, none, none]) (st2 := [az_i (((i0 : Nat) : Int))]) (s2 := s) (by rw [show s 25 4 = ((i0 : Nat) : Int) from hat]; rfl) ?_
  refine az_to 3 (pc2 := 9) (lv2 := [some (az_r 25), some (az_x (fi + 1)), some (az_i (((i0 : Nat) : Int))), none, none, none, none]) (st2 := [az_i (s 25 3)]) (s2 := s) rfl ?_
  refine az_to 0 (pc2 := 9) (lv2 := [some (az_r 25), some (az_x (fi + 1)), some (az_i (((i0 : Nat) : Int))), none, none, none, none]) (st2 := [az_i (((c : Nat) : Int))]) (s2 := s) (by rw [show s 25 3 = ((c : Nat) : Int) from hc]; rfl) ?_
  refine az_to 5 (pc2 := 15) (lv2 := [some (az_r 25), some (az_x (fi + 1)), some (az_i (((i0 : Nat) : Int))), some (az_i ((((c : Nat) : Int) * 4))), some (az_i (0)), none, none]) (st2 := []) (s2 := s) rfl ?_
  refine az_to 0 (pc2 := 15) (lv2 := [some (az_r 25), some (az_x (fi + 1)), some (az_i (((i0 : Nat) : Int))), some (az_i ((((4 * c + 0) : Nat) : Int))), some (az_i (0)), none, none]) (st2 := []) (s2 := s) (by rw [show ((((4 * c + 0) : Nat) : Int)) = (((c : Nat) : Int) * 4) from by omega]; rfl) ?_
  exact zs_X1_matches_L15 (by omega) hT htx h14 hc9 hi0 hc hat her he0 hpc _ 0 i0 0 s _ _ rfl (by omega) (by omega) (by omega) ⟨[], rfl, rfl, by rw [List.drop_zero]; omega, fun q hq => absurd hq (by omega)⟩ (fun j hj => rfl) (fun j hj => rfl)

