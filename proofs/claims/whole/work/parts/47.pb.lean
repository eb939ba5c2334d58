/-! ALL COMMANDS, IN THE REFERENCE: math -/
def zPB (T : Nat → Int) (n m c i : Nat) (u : az_S) (o : az_O) (t : az_S) : Prop :=
  o = .inl (some (az_i (az_b ((zpr T n m i).2.1 = true)))) ∧
  ((zpr T n m i).2.1 = true → t 34 19 = ((c + (zpr T n m i).1.length : Nat) : Int) ∧ ∀ q, q < (zpr T n m i).1.length → t 42 (5 * (c + q)) = ((((zpr T n m i).1.getD q (0, [])).1 : Nat) : Int) ∧ ∀ p, p < ((zpr T n m i).1.getD q (0, [])).2.length → t 42 (5 * (c + q) + 1 + p) = ((zpr T n m i).1.getD q (0, [])).2.getD p 0) ∧
  ((zpr T n m i).2.1 = false → t 34 18 = (zpr T n m i).2.2) ∧ (∀ j, j < 5 * c → t 42 j = u 42 j) ∧ (∀ j, j ≠ 18 → j ≠ 19 → j ≠ 20 → t 34 j = u 34 j) ∧ ∀ j, j ≠ 34 → j ≠ 42 → t j = u j
/-- no command there -/
theorem zPB_0 {T : Nat → Int} {n m c i : Nat} {u t t2 : az_S} {o o2 : az_O} (h0 : ¬ 0 ≤ zfk T i) (H : zRB T i c u o t) (ho : o2 = .inl (some (az_i 0))) (e8 : t2 34 18 = t 34 18) (e4 : ∀ j, j ≠ 18 → t2 34 j = t 34 j) (er : ∀ j, j ≠ 34 → t2 j = t j) : zPB T n (m + 1) c i u o2 t2 := by
  obtain ⟨a1, a2, a3, a4, a5, a6⟩ := H
  have e : zpr T n (m + 1) i = ([], false, zer T i 13) := by
    conv => lhs; unfold zpr
    rw [if_pos h0]
  unfold zPB
  rw [e]
  exact ⟨ho, fun h => absurd (show false = true from h) (by decide), fun _ => by rw [e8]; exact a3 h0, fun j hj => by rw [er 42 (by decide)]; exact a4 j hj, fun j j8 j9 j0 => by rw [e4 j j8]; exact a5 j j8 j9 j0, fun j j1 j2 => by rw [er j j1]; exact a6 j j1 j2⟩
/-- the last command -/
theorem zPB_1 {T : Nat → Int} {n m c i : Nat} {u t t2 : az_S} {o o2 : az_O} (h0 : 0 ≤ zfk T i) (hn : (zms T (zF (zfk T i).toNat) i).1 = n) (H : zRB T i c u o t) (ho : o2 = .inl (some (az_i 1))) (e4 : ∀ j, j ≠ 18 → t2 34 j = t 34 j) (er : ∀ j, j ≠ 34 → t2 j = t j) : zPB T n (m + 1) c i u o2 t2 := by
  obtain ⟨a1, a2, a3, a4, a5, a6⟩ := H
  obtain ⟨b1, b2, b3, b4⟩ := a2 h0
  have e : zpr T n (m + 1) i = ([((zfk T i).toNat, (zms T (zF (zfk T i).toNat) i).2.2)], true, 0) := by
    conv => lhs; unfold zpr
    rw [if_neg (by omega), if_pos hn]
  unfold zPB
  rw [e]
  refine ⟨ho, fun _ => ⟨by rw [e4 19 (by decide), b2]; rfl, fun q hq => ?_⟩, fun h => absurd (show true = false from h) (by decide), fun j hj => by rw [er 42 (by decide)]; exact a4 j hj, fun j j8 j9 j0 => by rw [e4 j j8]; exact a5 j j8 j9 j0, fun j j1 j2 => by rw [er j j1]; exact a6 j j1 j2⟩
  obtain rfl : q = 0 := by simp only [List.length_cons, List.length_nil] at hq; omega
  refine ⟨?_, fun p hp => ?_⟩
  · show t2 42 (5 * c) = (((zfk T i).toNat : Nat) : Int)
    rw [er 42 (by decide), b3]; omega
  · rw [er 42 (by decide)]
    exact b4 p hp
/-- neither the end nor a semicolon behind a command -/
theorem zPB_2 {T : Nat → Int} {n m c i : Nat} {u t t2 : az_S} {o o2 : az_O} (h0 : 0 ≤ zfk T i) (hn : ¬ (zms T (zF (zfk T i).toNat) i).1 = n) (h9 : ¬ T (zms T (zF (zfk T i).toNat) i).1 = 59) (H : zRB T i c u o t) (ho : o2 = .inl (some (az_i 0))) (e8 : t2 34 18 = t 34 18) (e4 : ∀ j, j ≠ 18 → t2 34 j = t 34 j) (er : ∀ j, j ≠ 34 → t2 j = t j) : zPB T n (m + 1) c i u o2 t2 := by
  obtain ⟨a1, a2, a3, a4, a5, a6⟩ := H
  obtain ⟨b1, b2, b3, b4⟩ := a2 h0
  have e : zpr T n (m + 1) i = ([], false, (((zms T (zF (zfk T i).toNat) i).1 : Nat) : Int)) := by
    conv => lhs; unfold zpr
    rw [if_neg (by omega), if_neg hn, if_neg h9]
  unfold zPB
  rw [e]
  exact ⟨ho, fun h => absurd (show false = true from h) (by decide), fun _ => by rw [e8]; exact b1, fun j hj => by rw [er 42 (by decide)]; exact a4 j hj, fun j j8 j9 j0 => by rw [e4 j j8]; exact a5 j j8 j9 j0, fun j j1 j2 => by rw [er j j1]; exact a6 j j1 j2⟩
/-- a command and a semicolon: the others follow -/
theorem zPB_c {T : Nat → Int} {n m c i : Nat} {u t1 t2 : az_S} {o1 : az_O} (h0 : 0 ≤ zfk T i) (hj : ¬ (zms T (zF (zfk T i).toNat) i).1 = n) (h9 : T (zms T (zF (zfk T i).toNat) i).1 = 59) (h4 : (zms T (zF (zfk T i).toNat) i).2.2.length ≤ 4)
    (H1 : zRB T i c u o1 t1) (e4 : ∀ j, j ≠ 18 → t2 34 j = t1 34 j) (er : ∀ j, j ≠ 34 → t2 j = t1 j) {o : az_O} {t : az_S}
    (H : zPB T n m (c + 1) ((zms T (zF (zfk T i).toNat) i).1 + 1) t2 o t) : zPB T n (m + 1) c i u o t := by
  obtain ⟨_, p2, _, p4, p5, p6⟩ := H1
  obtain ⟨_, _, q3, q4⟩ := p2 h0
  obtain ⟨a1, a2, a3, a4, a5, a6⟩ := H
  have e : zpr T n (m + 1) i = (((zfk T i).toNat, (zms T (zF (zfk T i).toNat) i).2.2) :: (zpr T n m ((zms T (zF (zfk T i).toNat) i).1 + 1)).1, (zpr T n m ((zms T (zF (zfk T i).toNat) i).1 + 1)).2) := by
    conv => lhs; unfold zpr
    rw [if_neg (by omega), if_neg hj, if_pos h9]
  unfold zPB
  rw [e]
  refine ⟨a1, fun h => ?_, a3, fun j hj2 => by rw [a4 j (by omega), er 42 (by decide), p4 j hj2], fun j j8 j9 j0 => by rw [a5 j j8 j9 j0, e4 j j8, p5 j j8 j9 j0], fun j j1 j2 => by rw [a6 j j1 j2, er j j1, p6 j j1 j2]⟩
  obtain ⟨b1, b2⟩ := a2 h
  refine ⟨by rw [b1, List.length_cons]; congr 1; omega, fun q hq => ?_⟩
  match q, hq with
  | 0, _ =>
    refine ⟨?_, fun p hp => ?_⟩
    · show t 42 (5 * c) = (((zfk T i).toNat : Nat) : Int)
      rw [a4 _ (by omega), er 42 (by decide), q3]; omega
    · have hp : p < (zms T (zF (zfk T i).toNat) i).2.2.length := hp
      show t 42 (5 * c + 1 + p) = (zms T (zF (zfk T i).toNat) i).2.2.getD p 0
      rw [a4 _ (by omega), er 42 (by decide), q4 p hp]
  | q + 1, hq =>
    have hq : q < (zpr T n m ((zms T (zF (zfk T i).toNat) i).1 + 1)).1.length := by rw [List.length_cons] at hq; omega
    have b3 := b2 q hq
    refine ⟨?_, fun p hp => ?_⟩
    · rw [show c + (q + 1) = c + 1 + q from by omega]; exact b3.1
    · rw [show c + (q + 1) = c + 1 + q from by omega]; exact b3.2 p hp
