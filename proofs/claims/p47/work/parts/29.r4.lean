/-! REFERENCE, 4: the changes of its face; written by program (wip/tools/zg/r4.py) -/
theorem va_cpy_s (f g : Nat → Int) (b a k : Nat) : zup (va_cpy f g b a k) (a + k) (f (b + k)) = va_cpy f g b a (k + 1) := by
  funext j
  unfold zup va_cpy
  by_cases q : j = a + k
  · rw [if_pos q, if_pos (by omega)]
    congr 1
    omega
  · rw [if_neg q]
    by_cases q2 : a ≤ j ∧ j < a + k
    · rw [if_pos q2, if_pos (by omega)]
    · rw [if_neg q2, if_neg (by omega)]
theorem va_cpy_0 (f g : Nat → Int) (b a : Nat) : va_cpy f g b a 0 = g := by
  funext j
  exact if_neg (by omega)
/-- the past moved down by k places -/
def zsh7 (P : Nat → Int) (k : Nat) : Nat → Int := fun j => if j < 175 * k then P (j + 175) else P j
theorem zsh7_0 (P : Nat → Int) : zsh7 P 0 = P := by
  funext j
  exact if_neg (by omega)
theorem zsh7_s (P : Nat → Int) (k : Nat) : va_cpy (zsh7 P k) (zsh7 P k) (175 * (k + 1)) (175 * k) 175 = zsh7 P (k + 1) := by
  funext j
  unfold va_cpy zsh7
  by_cases q : 175 * k ≤ j ∧ j < 175 * k + 175
  · rw [if_pos q, if_neg (by omega), if_pos (by omega)]
    congr 1
    omega
  · rw [if_neg q]
    by_cases q2 : j < 175 * k
    · rw [if_pos q2, if_pos (by omega)]
    · rw [if_neg q2, if_neg (by omega)]
/-- the past behind a change: P before, S the row before the change -/
def zpast (P S : Nat → Int) (c : Nat) : Nat → Int := va_cpy S (if c = 8 then zsh7 P 7 else P) 0 (175 * (if c = 8 then 7 else c)) 175
theorem zpast_w (P S W : Nat → Int) (c : Nat) : zpast P (va_cpy S W 0 0 175) c = zpast P S c := by
  funext j
  unfold zpast
  show (if _ ∧ _ then va_cpy S W 0 0 175 (0 + (j - _)) else _) = (if _ ∧ _ then S (0 + (j - _)) else _)
  by_cases q : 175 * (if c = 8 then 7 else c) ≤ j ∧ j < 175 * (if c = 8 then 7 else c) + 175
  · rw [if_pos q, if_pos q]
    unfold va_cpy
    rw [if_pos (by omega)]
    congr 1
    omega
  · rw [if_neg q, if_neg q]
/-- what a change of the reference's face leaves -/
def zPm (s t : az_S) (c : Nat) (r : zQ) (w a : Int) : Prop :=
  t 35 = r.2.2.2 ∧ t 34 6 = (if r.1 = 3 then a else zth r.1 w) ∧ (r.1 = 0 → t 34 5 = ((if c = 8 then 8 else c + 1 : Nat) : Int) ∧ t 38 = zpast (s 38) (s 35) c) ∧ (r.1 ≠ 0 → t 34 5 = s 34 5 ∧ t 38 = s 38) ∧
  (r.1 = 3 → t 34 7 = r.2.1 ∧ t 34 8 = r.2.2.1 ∧ t 34 9 = 0) ∧ (r.1 ≠ 3 → t 34 7 = s 34 7 ∧ t 34 8 = s 34 8 ∧ t 34 9 = s 34 9) ∧ (∀ j, j ≠ 5 → j ≠ 6 → j ≠ 7 → j ≠ 8 → j ≠ 9 → t 34 j = s 34 j) ∧ (∀ i, i ≠ 34 → i ≠ 35 → i ≠ 36 → i ≠ 38 → t i = s i)
/-- behind keeps -/
def zKp (s k : az_S) : Prop := k 36 = va_cpy (s 35) (s 36) 0 0 175 ∧ k 34 6 = 0 ∧ (∀ j, j ≠ 6 → k 34 j = s 34 j) ∧ ∀ i, i ≠ 34 → i ≠ 36 → k i = s i
theorem zPm_0 {s k u t : az_S} {c : Nat} {r : zQ} {w a : Int} (hk : zKp s k) (hu : zMo k u r w) (hr : r.1 = 0) (h1 : t 34 5 = ((if c = 8 then 8 else c + 1 : Nat) : Int)) (h2 : t 38 = zpast (u 38) (u 36) c) (h3 : ∀ j, j ≠ 5 → t 34 j = u 34 j) (h4 : ∀ i, i ≠ 34 → i ≠ 38 → t i = u i) : zPm s t c r w a := by
  obtain ⟨k1, k2, k3, k4⟩ := hk
  obtain ⟨u1, u2, u3, u4, u5, u6⟩ := hu
  refine ⟨by rw [h4 35 (by decide) (by decide)]; exact u1, ?_, fun _ => ⟨h1, ?_⟩, fun q => absurd hr q, fun q => absurd (hr.symm.trans q) (by decide), fun q => ?_, fun j j1 j2 j3 j4 j5 => ?_, fun i i1 i2 i3 i4 => ?_⟩
  · rw [h3 6 (by decide), if_neg (by omega)]; exact u2
  · rw [h2, u6 38 (by decide) (by decide), k4 38 (by decide) (by decide), u6 36 (by decide) (by decide), k1, zpast_w]
  · rw [h3 7 (by decide), h3 8 (by decide), h3 9 (by decide), (u4 q).1, (u4 q).2.1, (u4 q).2.2, k3 7 (by decide), k3 8 (by decide), k3 9 (by decide)]
    exact ⟨rfl, rfl, rfl⟩
  · rw [h3 j j1, u5 j j2 j3 j4 j5, k3 j j2]
  · rw [h4 i i1 i4, u6 i i1 i2, k4 i i1 i3]
theorem zPm_x {s k u t : az_S} {c : Nat} {r : zQ} {w a x : Int} (hk : zKp s k) (hu : zMo k u r w) (hr : r.1 ≠ 0) (ht : t = am_up u 34 6 x) (hx : x = (if r.1 = 3 then a else zth r.1 w)) : zPm s t c r w a := by
  obtain ⟨k1, k2, k3, k4⟩ := hk
  obtain ⟨u1, u2, u3, u4, u5, u6⟩ := hu
  have t1 : ∀ i, i ≠ 34 → t i = u i := fun i hi => by rw [ht]; funext j; simp only [am_up, if_neg hi]
  have t2 : ∀ j, j ≠ 6 → t 34 j = u 34 j := fun j hj => by rw [ht]; simp only [am_up, if_true, if_neg hj]
  refine ⟨by rw [t1 35 (by decide)]; exact u1, ?_, fun q => absurd q hr, fun _ => ?_, fun q => ?_, fun q => ?_, fun j j1 j2 j3 j4 j5 => ?_, fun i i1 i2 i3 i4 => ?_⟩
  · rw [ht, ← hx]; rfl
  · rw [t2 5 (by decide), u5 5 (by decide) (by decide) (by decide) (by decide), k3 5 (by decide), t1 38 (by decide), u6 38 (by decide) (by decide), k4 38 (by decide) (by decide)]
    exact ⟨rfl, rfl⟩
  · rw [t2 7 (by decide), t2 8 (by decide), t2 9 (by decide)]; exact u3 q
  · rw [t2 7 (by decide), t2 8 (by decide), t2 9 (by decide), (u4 q).1, (u4 q).2.1, (u4 q).2.2, k3 7 (by decide), k3 8 (by decide), k3 9 (by decide)]
    exact ⟨rfl, rfl, rfl⟩
  · rw [t2 j j2, u5 j j2 j3 j4 j5, k3 j j2]
  · rw [t1 i i1, u6 i i1 i2, k4 i i1 i3]
