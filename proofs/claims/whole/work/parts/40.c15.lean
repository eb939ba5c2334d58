/-! CLASS, 15: all commands read from the text; written by program (wip/tools/zg/s15.py) -/
/-- all commands of a text from a place on, at most so many: kinds and numbers, whether it is well formed, where it goes wrong -/
def zpr (T : Nat → Int) (n : Nat) : Nat → Nat → List (Nat × List Int) × Bool × Int
  | 0, i => ([], false, ((i : Nat) : Int))
  | m + 1, i => if ¬ 0 ≤ zfk T i then ([], false, zer T i 13) else
      if (zms T (zF (zfk T i).toNat) i).1 = n then ([((zfk T i).toNat, (zms T (zF (zfk T i).toNat) i).2.2)], true, 0) else
      if T (zms T (zF (zfk T i).toNat) i).1 = 59 then
        (((zfk T i).toNat, (zms T (zF (zfk T i).toNat) i).2.2) :: (zpr T n m ((zms T (zF (zfk T i).toNat) i).1 + 1)).1, (zpr T n m ((zms T (zF (zfk T i).toNat) i).1 + 1)).2)
      else ([], false, (((zms T (zF (zfk T i).toNat) i).1 : Nat) : Int))
def zPA (T : Nat → Int) (n m c i : Nat) (u : az_S) (o : az_O) (t : az_S) : Prop :=
  o = .inl (some (az_i (az_b ((zpr T n m i).2.1 = true)))) ∧
  ((zpr T n m i).2.1 = true → t 25 3 = ((c + (zpr T n m i).1.length : Nat) : Int) ∧ ∀ q, q < (zpr T n m i).1.length → t 27 (c + q) = ((((zpr T n m i).1.getD q (0, [])).1 : Nat) : Int) ∧ ∀ p, p < ((zpr T n m i).1.getD q (0, [])).2.length → t 29 (4 * (c + q) + p) = ((zpr T n m i).1.getD q (0, [])).2.getD p 0) ∧
  ((zpr T n m i).2.1 = false → t 25 5 = (zpr T n m i).2.2) ∧ (∀ j, j < c → t 27 j = u 27 j) ∧ (∀ j, j < 4 * c → t 29 j = u 29 j) ∧ (∀ j, j ≠ 3 → j ≠ 4 → j ≠ 5 → t 25 j = u 25 j) ∧ ∀ j, j ≠ 25 → j ≠ 27 → j ≠ 29 → t j = u j
theorem zms_ge (T : Nat → Int) : ∀ (F : List Char) (i : Nat), (zms T F i).2.1 = true → i + F.length ≤ (zms T F i).1
  | [], i, _ => Nat.le_refl _
  | w :: F, i, h => by
    unfold zms at h ⊢
    by_cases q : zft (w.toNat : Int) (T i)
    · rw [if_pos q] at h ⊢
      have h1 := zms_ge T F (i + zwd T w.toNat i) h
      have h2 := zwd_r T w.toNat i
      rw [List.length_cons]
      dsimp only
      omega
    · rw [if_neg q] at h
      exact absurd (show false = true from h) (by decide)
theorem zF_5 : ∀ k, k < 13 → 5 ≤ (zF k).length := by decide
/-- a form that fits ends inside the text -/
theorem zms_n {s : az_S} {n : Nat} {T : Nat → Int} (hT : zTx s n T) : ∀ (F : List Char) (i : Nat), (∀ c, c ∈ F → 0 < c.toNat) → i ≤ n → (zms T F i).2.1 = true → (zms T F i).1 ≤ n
  | [], i, _, h, _ => h
  | w :: F, i, hF, hi, h => by
    unfold zms at h ⊢
    by_cases q : zft (w.toNat : Int) (T i)
    · rw [if_pos q] at h ⊢
      refine zms_n hT F _ (fun c hc => hF c (List.mem_cons_of_mem _ hc)) ?_ h
      have h0 := hF w (List.mem_cons_self ..)
      have h1 : i < n := by
        by_cases q1 : i < n
        · exact q1
        · have := hT.2.2.2.1 i (by omega)
          omega
      unfold zwd
      split
      · by_cases q1 : i + 1 < n
        · omega
        · have := hT.2.2.2.1 (i + 1) (by omega)
          omega
      · omega
    · rw [if_neg q] at h
      exact absurd (show false = true from h) (by decide)
theorem zfk_r {T : Nat → Int} {i : Nat} : -1 ≤ zfk T i ∧ zfk T i < 13 := zf_lt _ 13
theorem zfk_ok {T : Nat → Int} {i : Nat} (h : 0 ≤ zfk T i) : (zms T (zF (zfk T i).toNat) i).2.1 = true ∧ i + 5 ≤ (zms T (zF (zfk T i).toNat) i).1 := by
  have h1 : (zms T (zF (zfk T i).toNat) i).2.1 = true := zf_some _ _ h
  have h2 := zms_ge T _ _ h1
  have h3 := zfk_r (T := T) (i := i)
  have h4 := zF_5 (zfk T i).toNat (by omega)
  exact ⟨h1, by omega⟩
theorem zPA_c {T : Nat → Int} {n m c i : Nat} {u t1 t2 : az_S} (h0 : 0 ≤ zfk T i) (hj : ¬ (zms T (zF (zfk T i).toNat) i).1 = n) (h9 : T (zms T (zF (zfk T i).toNat) i).1 = 59)
    (p2 : t1 27 c = zfk T i ∧ ∀ q, q < (zms T (zF (zfk T i).toNat) i).2.2.length → t1 29 (4 * c + q) = (zms T (zF (zfk T i).toNat) i).2.2.getD q 0)
    (h4 : (zms T (zF (zfk T i).toNat) i).2.2.length ≤ 4)
    (p4 : ∀ j, j ≠ 4 → j ≠ 5 → t1 25 j = u 25 j) (p5 : ∀ j, j ≠ c → t1 27 j = u 27 j) (p6 : ∀ j, j < 4 * c → t1 29 j = u 29 j) (p7 : ∀ j, j ≠ 25 → j ≠ 27 → j ≠ 29 → t1 j = u j)
    (r1 : ∀ j, j ≠ 3 → j ≠ 4 → j ≠ 5 → t2 25 j = t1 25 j) (r2 : ∀ j, j ≠ 25 → t2 j = t1 j) {o : az_O} {t : az_S}
    (H : zPA T n m (c + 1) ((zms T (zF (zfk T i).toNat) i).1 + 1) t2 o t) : zPA T n (m + 1) c i u o t := by
  obtain ⟨a1, a2, a3, a4, a5, a6, a7⟩ := H
  have e : zpr T n (m + 1) i = (((zfk T i).toNat, (zms T (zF (zfk T i).toNat) i).2.2) :: (zpr T n m ((zms T (zF (zfk T i).toNat) i).1 + 1)).1, (zpr T n m ((zms T (zF (zfk T i).toNat) i).1 + 1)).2) := by
    conv => lhs; unfold zpr
    rw [if_neg (by omega), if_neg hj, if_pos h9]
  unfold zPA
  rw [e]
  refine ⟨a1, fun h => ?_, a3, fun j hj2 => ?_, fun j hj2 => ?_, fun j j3 j4 j5 => ?_, fun j j1 j2 j3 => ?_⟩
  · obtain ⟨b1, b2⟩ := a2 h
    refine ⟨by rw [b1, List.length_cons]; congr 1; omega, fun q hq => ?_⟩
    match q, hq with
    | 0, _ =>
      refine ⟨?_, fun p hp => ?_⟩
      · show t 27 c = (((zfk T i).toNat : Nat) : Int)
        rw [a4 c (by omega), r2 27 (by decide), p2.1]; omega
      · have hp : p < (zms T (zF (zfk T i).toNat) i).2.2.length := hp
        show t 29 (4 * c + p) = (zms T (zF (zfk T i).toNat) i).2.2.getD p 0
        rw [a5 _ (by omega), r2 29 (by decide), p2.2 p hp]
    | q + 1, hq =>
      have hq : q < (zpr T n m ((zms T (zF (zfk T i).toNat) i).1 + 1)).1.length := by rw [List.length_cons] at hq; omega
      have b3 := b2 q hq
      refine ⟨?_, fun p hp => ?_⟩
      · rw [show c + (q + 1) = c + 1 + q from by omega]; exact b3.1
      · rw [show c + (q + 1) = c + 1 + q from by omega]; exact b3.2 p hp
  · rw [a4 j (by omega), r2 27 (by decide), p5 j (by omega)]
  · rw [a5 j (by omega), r2 29 (by decide), p6 j hj2]
  · rw [a6 j j3 j4 j5, r1 j j3 j4 j5, p4 j j4 j5]
  · rw [a7 j j1 j2 j3, r2 j j1, p7 j j1 j2 j3]
theorem zms_len (T : Nat → Int) : ∀ (F : List Char) (i : Nat), (zms T F i).2.2.length ≤ zpc F
  | [], i => Nat.le_refl _
  | w :: F, i => by
    have h := zms_len T F (i + zwd T w.toNat i)
    unfold zms zpc
    split
    · dsimp only
      rw [List.length_append]
      split <;> simp only [List.length_cons, List.length_nil] <;> omega
    · exact Nat.zero_le _
theorem zms_4 {T : Nat → Int} {k i : Nat} (hk : k < 13) : (zms T (zF k) i).2.2.length ≤ 4 := by
  obtain ⟨tx, _, _, hp, hF⟩ := zF_ok k hk
  have := zms_len T (zF k) i
  rw [hF] at this ⊢
  omega
