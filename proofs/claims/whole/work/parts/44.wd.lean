/-! FORMS AGAINST WORDS: math -/
/-- what a form asks behind its word -/
def zRs (k : Nat) : List Char := (zF k).drop (zWd k).length
theorem zF_w : ∀ k, k < 13 → zF k = zWd k ++ zRs k ∧ ∀ c, c ∈ zWd k → 0 < c.toNat ∧ ¬ zdg (c.toNat : Int) ∧ ((c.toNat : Nat) : Int) ≠ 43 := by decide
theorem zWd_ne : ∀ k, k < 13 → ∀ j, j < 13 → j ≠ k → ∃ p, p < 14 ∧ p < (zWd k).length ∧ p < (zWd j).length ∧ (zWd k)[p]? ≠ (zWd j)[p]? := by decide
theorem zms_c {T : Nat → Int} {w : Char} {F : List Char} {i : Nat} : zms T (w :: F) i = if zft (w.toNat : Int) (T i) then
      ((zms T F (i + zwd T w.toNat i)).1, (zms T F (i + zwd T w.toNat i)).2.1, (if ((w.toNat : Nat) : Int) = 43 ∨ zdg (w.toNat : Int) then [zvl T i (zwd T w.toNat i)] else []) ++ (zms T F (i + zwd T w.toNat i)).2.2)
    else (i, false, []) := rfl
theorem zal_c {T : Nat → Int} {w : Char} {W : List Char} {i : Nat} : zal T (w :: W) i = if T i = ((w.toNat : Nat) : Int) then 1 + zal T W (i + 1) else 0 := rfl
theorem zms_W (T : Nat → Int) (R : List Char) : ∀ (W : List Char) (i : Nat), (∀ c, c ∈ W → 0 < c.toNat ∧ ¬ zdg (c.toNat : Int) ∧ ((c.toNat : Nat) : Int) ≠ 43) → zms T (W ++ R) i = if zal T W i = W.length then zms T R (i + W.length) else (i + zal T W i, false, [])
  | [], i, _ => by
    show zms T R i = if (0 : Nat) = 0 then zms T R (i + 0) else (i + 0, false, [])
    rw [if_pos rfl]; rfl
  | w :: W, i, h => by
    have hw := h w (List.mem_cons_self ..)
    have ih := zms_W T R W (i + 1) (fun c hc => h c (List.mem_cons_of_mem _ hc))
    have hl := zal_le T W (i + 1)
    rw [List.cons_append, zms_c, zal_c]
    by_cases q : T i = ((w.toNat : Nat) : Int)
    · have hwd : zwd T ((w.toNat : Nat) : Int) i = 1 := by unfold zwd; rw [if_neg (by omega)]
      rw [if_pos (by omega), if_pos q, hwd, if_neg (by omega), ih, List.length_cons]
      by_cases q2 : zal T W (i + 1) = W.length
      · rw [if_pos q2, if_pos (by omega), show i + 1 + W.length = i + (W.length + 1) from by omega]
        rfl
      · rw [if_neg q2, if_neg (by omega), show i + 1 + zal T W (i + 1) = i + (1 + zal T W (i + 1)) from by omega]
        rfl
    · rw [if_neg (by omega), if_neg q, if_neg (by rw [List.length_cons]; omega)]
      rfl
theorem zal_at (T : Nat → Int) : ∀ (W : List Char) (i p : Nat) (c : Char), p < zal T W i → W[p]? = some c → T (i + p) = ((c.toNat : Nat) : Int)
  | [], i, p, c, h, _ => absurd (show p < 0 from h) (by omega)
  | w :: W, i, p, c, h, hc => by
    unfold zal at h
    by_cases q : T i = ((w.toNat : Nat) : Int)
    · rw [if_pos q] at h
      match p, h, hc with
      | 0, _, hc =>
        obtain rfl : w = c := by simpa using hc
        exact q
      | p + 1, h, hc =>
        rw [show i + (p + 1) = i + 1 + p from by omega]
        exact zal_at T W (i + 1) p c (by omega) (by simpa using hc)
    · rw [if_neg q] at h; omega
/-- where one word stands in full, every other stops before its end -/
theorem zal_ne {T : Nat → Int} {i k j : Nat} (hk : k < 13) (hj : j < 13) (hn : j ≠ k) (h : zal T (zWd k) i = (zWd k).length) : zal T (zWd j) i < (zWd k).length ∧ zal T (zWd j) i < (zWd j).length := by
  obtain ⟨p, _, p1, p2, p3⟩ := zWd_ne k hk j hj hn
  have hle : zal T (zWd j) i ≤ p := by
    refine Nat.le_of_not_lt (fun q => ?_)
    have a1 := zal_at T (zWd j) i p _ q (List.getElem?_eq_getElem p2)
    have a2 := zal_at T (zWd k) i p _ (by omega) (List.getElem?_eq_getElem p1)
    refine p3 ?_
    rw [List.getElem?_eq_getElem p1, List.getElem?_eq_getElem p2]
    congr 1
    refine Char.toNat_inj.mp ?_
    omega
  omega
theorem zF_ms {T : Nat → Int} {i k : Nat} (hk : k < 13) : zms T (zF k) i = if zal T (zWd k) i = (zWd k).length then zms T (zRs k) (i + (zWd k).length) else (i + zal T (zWd k) i, false, []) := by
  obtain ⟨h1, h2⟩ := zF_w k hk
  rw [h1]
  exact zms_W T (zRs k) (zWd k) i h2
theorem zer_le {T : Nat → Int} {i : Nat} {B : Int} (hB : ((i : Nat) : Int) ≤ B) : ∀ m, (∀ j, j < m → (((zms T (zF j) i).1 : Nat) : Int) ≤ B) → zer T i m ≤ B
  | 0, _ => hB
  | m + 1, h => by
    have h1 := zer_le hB m (fun j hj => h j (by omega))
    have h2 := h m (by omega)
    show (if _ then _ else _) ≤ B
    split <;> assumption
theorem zer_ge {T : Nat → Int} {i : Nat} : ∀ m j, j < m → (((zms T (zF j) i).1 : Nat) : Int) ≤ zer T i m
  | 0, j, h => absurd h (by omega)
  | m + 1, j, h => by
    rw [show zer T i (m + 1) = if zer T i m < (((zms T (zF m) i).1 : Nat) : Int) then (((zms T (zF m) i).1 : Nat) : Int) else zer T i m from rfl]
    by_cases q : j = m
    · rw [q]; split <;> omega
    · have := zer_ge (T := T) (i := i) m j (by omega)
      split <;> omega
/-- a word in full: its form alone counts -/
theorem zfk_y {T : Nat → Int} {i k : Nat} (hk : k < 13) (h : zal T (zWd k) i = (zWd k).length) : (zfk T i = if (zms T (zF k) i).2.1 = true then ((k : Nat) : Int) else -1) ∧ zer T i 13 = (((zms T (zF k) i).1 : Nat) : Int) := by
  have hno : ∀ j, j < 13 → j ≠ k → zms T (zF j) i = (i + zal T (zWd j) i, false, []) ∧ zal T (zWd j) i < (zWd k).length := fun j hj hn => by
    have := zal_ne hk hj hn h
    rw [zF_ms hj, if_neg (by omega)]
    exact ⟨rfl, this.1⟩
  have hge : i + (zWd k).length ≤ (zms T (zF k) i).1 := by
    rw [zF_ms hk, if_pos h]
    exact (zms_r T (zRs k) _).1
  constructor
  · by_cases q : (zms T (zF k) i).2.1 = true
    · rw [if_pos q]
      exact zf_first _ _ k hk q (fun j hj => by rw [(hno j (by omega) (by omega)).1])
    · rw [if_neg q]
      refine zf_none _ _ (fun j hj => ?_)
      by_cases q2 : j = k
      · rw [q2]; exact eq_false_of_ne_true q
      · rw [(hno j hj q2).1]
  · have h1 := zer_le (T := T) (i := i) (B := (((zms T (zF k) i).1 : Nat) : Int)) (by omega) 13 (fun j hj => by
      by_cases q2 : j = k
      · rw [q2]; exact Int.le_refl _
      · have := hno j hj q2
        rw [this.1]
        show (((i + zal T (zWd j) i) : Nat) : Int) ≤ _
        omega)
    have h2 := zer_ge (T := T) (i := i) 13 k hk
    omega
/-- no word in full: as far as the longest beginning -/
theorem zfk_n {T : Nat → Int} {i : Nat} (h : ∀ k, k < 13 → zal T (zWd k) i ≠ (zWd k).length) : zfk T i = -1 ∧ zer T i 13 = ((i : Nat) : Int) + zwm T i 13 := by
  have hno : ∀ j, j < 13 → zms T (zF j) i = (i + zal T (zWd j) i, false, []) := fun j hj => by rw [zF_ms hj, if_neg (h j hj)]
  refine ⟨zf_none _ _ (fun j hj => by rw [hno j hj]), ?_⟩
  have key : ∀ m, m ≤ 13 → zer T i m = ((i : Nat) : Int) + zwm T i m := by
    intro m
    induction m with
    | zero => intro _; show ((i : Nat) : Int) = ((i : Nat) : Int) + 0; omega
    | succ m ih =>
      intro hm
      have e1 := ih (by omega)
      rw [show zer T i (m + 1) = if zer T i m < (((zms T (zF m) i).1 : Nat) : Int) then (((zms T (zF m) i).1 : Nat) : Int) else zer T i m from rfl, show zwm T i (m + 1) = if ((zal T (zWd m) i : Nat) : Int) < zwm T i m then zwm T i m else ((zal T (zWd m) i : Nat) : Int) from rfl, hno m (by omega)]
      dsimp only
      split <;> split <;> omega
  exact key 13 (Nat.le_refl _)
/-- a digit, one or two digits, a blank, a plus or a minus -/
theorem zms_d1 {T : Nat → Int} {R : List Char} {j : Nat} : zms T ('0' :: R) j = if zdg (T j) then ((zms T R (j + 1)).1, (zms T R (j + 1)).2.1, zvl T j 1 :: (zms T R (j + 1)).2.2) else (j, false, []) := by
  have e : zwd T ((('0').toNat : Nat) : Int) j = 1 := by unfold zwd; rw [if_neg (fun h => absurd h.1 (by decide))]
  rw [zms_c, e]
  by_cases q : zdg (T j)
  · rw [if_pos (Or.inl ⟨by decide, q⟩), if_pos q]; rfl
  · rw [if_neg (fun h => h.elim (fun h => q h.2) (fun h => h.elim (fun h => h.1 (by decide)) (fun h => h.1 (by decide)))), if_neg q]
theorem zms_sp {T : Nat → Int} {R : List Char} {j : Nat} : zms T (' ' :: R) j = if T j = 32 then zms T R (j + 1) else (j, false, []) := by
  have e : zwd T (((' ').toNat : Nat) : Int) j = 1 := by unfold zwd; rw [if_neg (fun h => absurd h.1 (by decide))]
  rw [zms_c, e]
  by_cases q : T j = 32
  · rw [if_pos (Or.inr (Or.inr ⟨by decide, by decide, q⟩)), if_pos q]; rfl
  · rw [if_neg (fun h => h.elim (fun h => absurd h.1 (by decide)) (fun h => h.elim (fun h => absurd h.2.1 (by decide)) (fun h => q h.2.2))), if_neg q]
