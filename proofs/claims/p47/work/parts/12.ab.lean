/-! WHAT THE NUMBERS MEAN: the reference's row S, the class's row W of the same state, and what both answer, as mathematics -/
abbrev zR : Type := Nat → Int
def zB (S : zR) (b k : Nat) : Int := S (6 + 12 * b + k)
def zT (S : zR) (t k : Nat) : Int := S (126 + 4 * t + k)
def zG (S : zR) (g k : Nat) : Int := S (150 + 5 * g + k)
def zn (S : zR) (i : Nat) : Nat := (S i).toNat
/-- a sum -/
def zs : Nat → (Nat → Int) → Int
  | 0, _ => 0
  | n + 1, f => zs n f + f n
/-- the first that fits, -1 for none -/
def zf : Nat → (Nat → Bool) → Int
  | 0, _ => -1
  | n + 1, p => if 0 ≤ zf n p then zf n p else if p n = true then n else -1
/-- the troll that counts a bridge -/
def zat (S : zR) (b : Nat) : Int := zf (zn S 1) (fun t => decide (zT S t 0 = b))
/-- the class's number k of a bridge -/
def zcb (S : zR) (b k : Nat) : Int := if k = 4 then zat S b else if k < 4 then zB S b k else zB S b (k - 1)
/-- the class's row and the reference's -/
def zRel (W S : zR) : Prop :=
  (W 0 = S 3 ∧ W 1 = S 5 ∧ W 2 = S 0 ∧ W 3 = S 1 ∧ W 4 = S 2) ∧
  (∀ b k, b < zn S 0 → k < 13 → W (5 + 13 * b + k) = zcb S b k) ∧
  (∀ b k, b < 10 → k < 13 → k ≠ 4 → k ≠ 6 → W (5 + 13 * b + k) = zcb S b k) ∧
  (∀ t k, t < 6 → k < 4 → W (135 + 4 * t + k) = zT S t k) ∧
  (∀ g k, g < 5 → k < 5 → W (159 + 5 * g + k) = zG S g k)
/-- what holds of the row behind at most h commands -/
def zIb (S : zR) (h b : Nat) : Prop :=
  (0 ≤ zB S b 0 ∧ zB S b 0 ≤ 5 ∧ 0 ≤ zB S b 1 ∧ zB S b 1 ≤ 5 ∧ zB S b 0 ≠ zB S b 1) ∧ (1 ≤ zB S b 2 ∧ zB S b 2 ≤ 9 ∧ 0 ≤ zB S b 3 ∧ zB S b 3 ≤ 9) ∧ (-1 ≤ zB S b 5 ∧ zB S b 5 < S 2 ∧ (0 ≤ zB S b 5 → 0 ≤ zat S b))
def zIc (S : zR) (h b : Nat) : Prop := 0 ≤ zB S b 4 ∧ zB S b 4 ≤ 48 * h + 48 ∧ 0 ≤ zB S b 6 ∧ zB S b 6 ≤ h ∧ (∀ g, g < 5 → 0 ≤ zB S b (7 + g)) ∧ (∀ g, g < 5 → zn S 2 ≤ g → zB S b (7 + g) = 0) ∧ (zn S 0 ≤ b → zB S b 4 = 0 ∧ zB S b 6 = 0 ∧ ∀ g, g < 5 → zB S b (7 + g) = 0)
def zIt (S : zR) (h t : Nat) : Prop := -1 ≤ zT S t 0 ∧ zT S t 0 < 10 ∧ 0 ≤ zT S t 1 ∧ zT S t 1 ≤ 495 * h ∧ 0 ≤ zT S t 2 ∧ zT S t 2 ≤ 9 ∧ 0 ≤ zT S t 3 ∧ zT S t 3 ≤ 48 * h + 48 ∧ (0 < zT S t 3 → 1 ≤ zT S t 2)
def zIg (S : zR) (h g : Nat) : Prop := 0 ≤ zG S g 0 ∧ zG S g 0 ≤ 5 ∧ 0 ≤ zG S g 1 ∧ zG S g 1 + zs 10 (fun b => zB S b (7 + g)) ≤ 99 ∧ 0 ≤ zG S g 2 ∧ zG S g 2 ≤ 1 ∧ 0 ≤ zG S g 3 ∧ zG S g 3 ≤ 27 * h ∧ 0 ≤ zG S g 4 ∧ zG S g 4 ≤ h ∧ (zn S 2 ≤ g → zG S g 1 = 0 ∧ zG S g 2 = 0 ∧ zG S g 3 = 0 ∧ zG S g 4 = 0)
def zInv (S : zR) (h : Nat) : Prop :=
  (0 ≤ S 0 ∧ S 0 ≤ 10 ∧ 0 ≤ S 1 ∧ S 1 ≤ 6 ∧ 0 ≤ S 2 ∧ S 2 ≤ 5 ∧ 0 ≤ S 3 ∧ S 3 ≤ 48 * h ∧ 0 ≤ S 5 ∧ S 5 ≤ 99 * h) ∧
  (∀ b, b < zn S 0 → zIb S h b) ∧ (∀ b, b < 10 → zIc S h b) ∧ (∀ t, t < 6 → zIt S h t) ∧ (∀ g, g < 5 → zIg S h g) ∧
  (∀ t, t < zn S 1 → zT S t 0 < S 0) ∧ (∀ t u, t < zn S 1 → u < zn S 1 → zT S t 0 = zT S u 0 → zT S t 0 = -1 ∨ t = u) ∧
  S 4 = zs 5 (fun g => zG S g 4)
theorem zn_eq {S : zR} {h : Nat} (hI : zInv S h) : ((zn S 0 : Nat) : Int) = S 0 ∧ ((zn S 1 : Nat) : Int) = S 1 ∧ ((zn S 2 : Nat) : Int) = S 2 := by
  obtain ⟨⟨a1, a2, a3, a4, a5, a6, -⟩, -⟩ := hI
  unfold zn
  refine ⟨?_, ?_, ?_⟩ <;> omega
theorem zn_le {S : zR} {h : Nat} (hI : zInv S h) : zn S 0 ≤ 10 ∧ zn S 1 ≤ 6 ∧ zn S 2 ≤ 5 := by
  obtain ⟨⟨a1, a2, a3, a4, a5, a6, -⟩, -⟩ := hI
  unfold zn
  refine ⟨?_, ?_, ?_⟩ <;> omega
theorem zf_lt (p : Nat → Bool) : ∀ n, -1 ≤ zf n p ∧ zf n p < n
  | 0 => by simp [zf]
  | n + 1 => by
    have := zf_lt p n
    unfold zf
    split
    · omega
    · split <;> omega
theorem zf_some (p : Nat → Bool) : ∀ n, 0 ≤ zf n p → p (zf n p).toNat = true
  | 0 => by simp [zf]
  | n + 1 => by
    intro h
    unfold zf at h ⊢
    by_cases h1 : 0 ≤ zf n p
    · rw [if_pos h1]; exact zf_some p n h1
    · rw [if_neg h1] at h ⊢
      by_cases h2 : p n = true
      · rw [if_pos h2]; exact h2
      · rw [if_neg h2] at h; omega
theorem zf_none (p : Nat → Bool) : ∀ n, (∀ i, i < n → p i = false) → zf n p = -1
  | 0 => fun _ => rfl
  | n + 1 => fun h => by
    unfold zf
    rw [zf_none p n (fun i hi => h i (by omega)), if_neg (by decide), if_neg (by rw [h n (by omega)]; decide)]
theorem zf_first (p : Nat → Bool) : ∀ n k, k < n → p k = true → (∀ i, i < k → p i = false) → zf n p = k
  | 0, k, hk, _, _ => by omega
  | n + 1, k, hk, hp, hn => by
    unfold zf
    by_cases h : k = n
    · subst h
      rw [zf_none p k hn, if_neg (by decide), if_pos hp]
    · rw [zf_first p n k (by omega) hp hn, if_pos (by omega)]
theorem zf_none' {p : Nat → Bool} {n : Nat} (h : ¬ 0 ≤ zf n p) : ∀ i, i < n → p i = false := by
  induction n with
  | zero => intro i hi; omega
  | succ n ih =>
    unfold zf at h
    intro i hi
    by_cases h1 : 0 ≤ zf n p
    · rw [if_pos h1] at h; omega
    · rw [if_neg h1] at h
      by_cases h2 : p n = true
      · rw [if_pos h2] at h; omega
      · by_cases h3 : i = n
        · subst h3; simpa using h2
        · exact ih h1 i (by omega)
theorem zs_ext {n : Nat} {f g : Nat → Int} (h : ∀ i, i < n → f i = g i) : zs n f = zs n g := by
  induction n with
  | zero => rfl
  | succ n ih => unfold zs; rw [ih (fun i hi => h i (by omega)), h n (by omega)]
theorem zs_le {n : Nat} {f : Nat → Int} {a b : Int} (h : ∀ i, i < n → a ≤ f i ∧ f i ≤ b) : n * a ≤ zs n f ∧ zs n f ≤ n * b := by
  induction n with
  | zero => simp [zs]
  | succ n ih =>
    unfold zs
    have h1 := ih (fun i hi => h i (by omega))
    have h2 := h n (by omega)
    have e1 : ((n + 1 : Nat) : Int) * a = n * a + a := by rw [Int.natCast_succ, Int.add_mul, Int.one_mul]
    have e2 : ((n + 1 : Nat) : Int) * b = n * b + b := by rw [Int.natCast_succ, Int.add_mul, Int.one_mul]
    omega
theorem zs_mem {n : Nat} {f : Nat → Int} (h : ∀ i, i < n → 0 ≤ f i) : ∀ k, k < n → f k ≤ zs n f := by
  induction n with
  | zero => intro k hk; omega
  | succ n ih =>
    intro k hk
    unfold zs
    have h0 : 0 ≤ zs n f := by
      have := (zs_le (n := n) (f := fun i => -f i) (a := 0) (b := 0))
      clear this
      clear ih hk
      induction n with
      | zero => exact Int.le_refl _
      | succ n ih2 =>
        unfold zs
        have := ih2 (fun i hi => h i (by omega))
        have := h n (by omega)
        omega
    by_cases hkn : k = n
    · subst hkn; omega
    · have := ih (fun i hi => h i (by omega)) k (by omega)
      have := h n (by omega)
      omega
theorem zR_b {W S : zR} (hR : zRel W S) {b k : Nat} (hb : b < zn S 0) (hk : k < 13) : W (5 + 13 * b + k) = zcb S b k := hR.2.1 b k hb hk
theorem zcb_p {S : zR} {b g : Nat} : zcb S b (8 + g) = zB S b (7 + g) := by
  unfold zcb
  rw [if_neg (by omega), if_neg (by omega)]
  congr 1
  omega
theorem zat_r {S : zR} {h : Nat} (hI : zInv S h) (b : Nat) : -1 ≤ zat S b ∧ zat S b < 6 := by
  have h1 := zf_lt (fun t => decide (zT S t 0 = b)) (zn S 1)
  have h2 := zn_le hI
  unfold zat
  omega
theorem zI_h {S : zR} {h : Nat} (hI : zInv S h) (hh : h ≤ 10000) : (zn S 0 ≤ 10 ∧ zn S 1 ≤ 6 ∧ zn S 2 ≤ 5) ∧ (((zn S 0 : Nat) : Int) = S 0 ∧ ((zn S 1 : Nat) : Int) = S 1 ∧ ((zn S 2 : Nat) : Int) = S 2) ∧ (0 ≤ S 3 ∧ S 3 ≤ 480000 ∧ 0 ≤ S 5 ∧ S 5 ≤ 990000) := by
  have h1 := hI.1
  refine ⟨zn_le hI, zn_eq hI, ?_⟩
  omega
theorem zI_b {S : zR} {h : Nat} (hI : zInv S h) (hh : h ≤ 10000) {b : Nat} (hb : b < zn S 0) :
    (0 ≤ zB S b 0 ∧ zB S b 0 ≤ 5 ∧ 0 ≤ zB S b 1 ∧ zB S b 1 ≤ 5 ∧ zB S b 0 ≠ zB S b 1) ∧ (1 ≤ zB S b 2 ∧ zB S b 2 ≤ 9 ∧ 0 ≤ zB S b 3 ∧ zB S b 3 ≤ 9) ∧ (0 ≤ zB S b 4 ∧ zB S b 4 ≤ 480048) ∧ (-1 ≤ zB S b 5 ∧ zB S b 5 < 5 ∧ zB S b 5 < S 2) ∧ (0 ≤ zB S b 6 ∧ zB S b 6 ≤ 10000) ∧ (-1 ≤ zat S b ∧ zat S b < 6) := by
  have h0 := zn_le hI
  have h9 := hI.1
  obtain ⟨c1, c2, c3, c4⟩ := hI.2.1 b hb
  obtain ⟨d1, d2, d3, d4, -⟩ := hI.2.2.1 b (by omega)
  refine ⟨c1, c2, ⟨d1, by omega⟩, ⟨c3, by omega, c4.1⟩, ⟨d3, by omega⟩, zat_r hI b⟩
theorem zI_t {S : zR} {h : Nat} (hI : zInv S h) (hh : h ≤ 10000) {t : Nat} (ht : t < 6) :
    (-1 ≤ zT S t 0 ∧ zT S t 0 < 10) ∧ (0 ≤ zT S t 1 ∧ zT S t 1 ≤ 4950000) ∧ (0 ≤ zT S t 2 ∧ zT S t 2 ≤ 9) ∧ (0 ≤ zT S t 3 ∧ zT S t 3 ≤ 480048) := by
  obtain ⟨e1, e2, e3, e4, e5, e6, e7, e8, e9⟩ := hI.2.2.2.1 t ht
  refine ⟨⟨e1, e2⟩, ⟨e3, by omega⟩, ⟨e5, e6⟩, ⟨e7, by omega⟩⟩
theorem zI_p {S : zR} {h : Nat} (hI : zInv S h) (hh : h ≤ 10000) {b g : Nat} (hb : b < 10) (hg : g < 5) : 0 ≤ zB S b (7 + g) ∧ zB S b (7 + g) ≤ 99 := by
  have h1 := (hI.2.2.1 b hb).2.2.2.2.1 g hg
  obtain ⟨f1, f2, f3, f4, -⟩ := hI.2.2.2.2.1 g hg
  have h2 := zs_mem (n := 10) (f := fun b => zB S b (7 + g)) (fun i hi => (hI.2.2.1 i hi).2.2.2.2.1 g hg) b hb
  omega
theorem zI_g {S : zR} {h : Nat} (hI : zInv S h) (hh : h ≤ 10000) {g : Nat} (hg : g < 5) :
    (0 ≤ zG S g 0 ∧ zG S g 0 ≤ 5) ∧ (0 ≤ zG S g 1 ∧ zG S g 1 ≤ 99) ∧ (0 ≤ zG S g 2 ∧ zG S g 2 ≤ 1) ∧ (0 ≤ zG S g 3 ∧ zG S g 3 ≤ 270000) ∧ (0 ≤ zG S g 4 ∧ zG S g 4 ≤ 10000) := by
  obtain ⟨f1, f2, f3, f4, f5, f6, f7, f8, f9, f10, -⟩ := hI.2.2.2.2.1 g hg
  have h2 := zs_le (n := 10) (f := fun b => zB S b (7 + g)) (a := 0) (b := 1000000) (fun i hi => by
    have h3 := zI_p hI hh hi hg
    omega)
  refine ⟨⟨f1, f2⟩, ⟨f3, by omega⟩, ⟨f5, f6⟩, ⟨f7, by omega⟩, ⟨f9, by omega⟩⟩
def zstr (S : zR) : Int := zs (zn S 2) (fun g => zG S g 2)
abbrev zgen (S : zR) : Prop := ((zn S 2 : Nat) : Int) < 2 * zstr S
def zrh (S : zR) (t : Nat) : Int := if 0 < zT S t 3 - S 3 then zT S t 3 - S 3 else 0
def zdn (S : zR) (t : Nat) : Int := if S 3 < zT S t 3 then zT S t 2 else 0
def zdue (S : zR) (b : Nat) : Int := if 0 ≤ zat S b ∧ ¬ zgen S then zB S b 3 else 0
def ztk (S : zR) (b : Nat) : Int := (if S 3 < zB S b 4 then 2 * zB S b 2 else zB S b 2) + (if 0 ≤ zat S b then zdn S (zat S b).toNat else 0)
def zac (S : zR) (b : Nat) (l : Int) : Int := if zB S b 0 = l then zB S b 1 else if zB S b 1 = l then zB S b 0 else -1
/-- the chest of a bridge, a goat's coins in chests, all chests -/
def zch (S : zR) (b : Nat) : Int := zs (zn S 2) (fun g => zB S b (7 + g))
def zcg (S : zR) (g : Nat) : Int := zs (zn S 0) (fun b => zB S b (7 + g))
def zchs (S : zR) : Int := zs (zn S 0) (fun b => zch S b)
def zst (S : zR) (k : Nat) : Int := zs (zn S 1) (fun t => zT S t k)
def zsg (S : zR) (k : Nat) : Int := zs (zn S 2) (fun g => zG S g k)
def ztl (S : zR) (p : Prop) [Decidable p] : Int := zs (zn S 0) (fun b => if p ∨ ¬ S 3 < zB S b 4 then zB S b 3 else 0)
def zcp (S : zR) : Int := zs (zn S 1) (fun t => az_b (¬ zT S t 0 = -1))
def zcc (S : zR) : Int := zs (zn S 0) (fun b => az_b (0 ≤ zat S b))
def zcd (S : zR) : Int := zs (zn S 0) (fun b => az_b (0 ≤ zB S b 5))
def zcf (S : zR) : Int := zs (zn S 0) (fun b => az_b (S 3 < zB S b 4))
def zcr (S : zR) (n : Int) : Int := zs (zn S 1) (fun t => az_b (1 ≤ zrh S t ∧ zrh S t ≤ n))
theorem zstr_r {S : zR} {h : Nat} (hI : zInv S h) (hh : h ≤ 10000) : 0 ≤ zstr S ∧ zstr S ≤ zn S 2 := by
  have h1 := zs_le (n := zn S 2) (f := fun g => zG S g 2) (a := 0) (b := 1) (fun g hg => (zI_g hI hh (by have := zn_le hI; omega)).2.2.1)
  unfold zstr
  omega
theorem zrh_r {S : zR} {h : Nat} (hI : zInv S h) (hh : h ≤ 10000) {t : Nat} (ht : t < 6) : 0 ≤ zrh S t ∧ zrh S t ≤ 480048 := by
  have h1 := zI_t hI hh ht
  have h2 := zI_h hI hh
  unfold zrh
  split <;> omega
theorem zsg_r {S : zR} {h : Nat} (hI : zInv S h) (hh : h ≤ 10000) {k : Nat} (hk : k < 5) : 0 ≤ zsg S k ∧ zsg S k ≤ 1350000 := by
  have h0 := zn_le hI
  have h1 := zs_le (n := zn S 2) (f := fun g => zG S g k) (a := 0) (b := 270000) (fun g hg => by
    have h2 := zI_g hI hh (g := g) (by omega)
    have : k = 0 ∨ k = 1 ∨ k = 2 ∨ k = 3 ∨ k = 4 := by omega
    rcases this with rfl | rfl | rfl | rfl | rfl <;> omega)
  unfold zsg
  omega
/-- how often the bridge of a troll was crossed -/
def zcw (S : zR) (t : Nat) : Int := if zT S t 0 = -1 then 0 else zB S (zT S t 0).toNat 6
abbrev zric (S : zR) (t u : Nat) : Prop := if ¬ zT S t 1 - zT S u 1 = 0 then 0 < zT S t 1 - zT S u 1 else if ¬ zcw S t - zcw S u = 0 then 0 < zcw S t - zcw S u else t < u
abbrev ztir (S : zR) (t u : Nat) : Prop := if ¬ zG S t 3 - zG S u 3 = 0 then 0 < zG S t 3 - zG S u 3 else if ¬ zG S t 1 - zG S u 1 = 0 then 0 < zG S t 1 - zG S u 1 else t < u
def zpt (S : zR) (t : Nat) : Int := zs (zn S 1) (fun u => az_b (zric S u t))
def zpg (S : zR) (t : Nat) : Int := zs (zn S 2) (fun u => az_b (ztir S u t))
/-- the earlier end to come -/
def zee (h e a : Int) : Int := if h < a ∧ (e = -1 ∨ a < e) then a else e
def zfo : Nat → (Nat → Int → Int) → Int → Int
  | 0, _, e => e
  | n + 1, f, e => f n (zfo n f e)
def zne1 (S : zR) (k : Nat) : Int := zfo k (fun t e => zee (S 3) e (zT S t 3)) (-1)
def zne2 (S : zR) (k : Nat) : Int := zfo k (fun b e => zee (S 3) e (zB S b 4)) (zne1 S (zn S 1))
def zne (S : zR) : Int := zne2 S (zn S 0)
theorem zcw_r {S : zR} {h : Nat} (hI : zInv S h) (hh : h ≤ 10000) {t : Nat} (ht : t < zn S 1) : 0 ≤ zcw S t ∧ zcw S t ≤ 10000 := by
  have h0 := zI_h hI hh
  have h1 := zI_t hI hh (t := t) (by omega)
  have h2 := hI.2.2.2.2.2.1 t ht
  unfold zcw
  split
  · omega
  · have h3 := zI_b hI hh (b := (zT S t 0).toNat) (by omega)
    omega
theorem zne1_r {S : zR} {h : Nat} (hI : zInv S h) (hh : h ≤ 10000) : ∀ {k : Nat}, k ≤ zn S 1 → -1 ≤ zne1 S k ∧ zne1 S k ≤ 480048
  | 0, _ => by unfold zne1 zfo; omega
  | k + 1, hk => by
    have h0 := zI_h hI hh
    have h1 := zne1_r hI hh (k := k) (by omega)
    have h2 := zI_t hI hh (t := k) (by omega)
    show -1 ≤ zee (S 3) (zne1 S k) (zT S k 3) ∧ zee (S 3) (zne1 S k) (zT S k 3) ≤ 480048
    unfold zee
    split <;> omega
theorem zne2_r {S : zR} {h : Nat} (hI : zInv S h) (hh : h ≤ 10000) : ∀ {k : Nat}, k ≤ zn S 0 → -1 ≤ zne2 S k ∧ zne2 S k ≤ 480048
  | 0, _ => zne1_r hI hh (Nat.le_refl _)
  | k + 1, hk => by
    have h0 := zI_h hI hh
    have h1 := zne2_r hI hh (k := k) (by omega)
    have h2 := zI_b hI hh (b := k) (by omega)
    show -1 ≤ zee (S 3) (zne2 S k) (zB S k 4) ∧ zee (S 3) (zne2 S k) (zB S k 4) ≤ 480048
    unfold zee
    split <;> omega
/-- the line that is written: the class's, the reference's -/
def zLn (s : az_S) (l : List Int) : Prop := s 30 1 = 16 ∧ s 30 2 = l.length ∧ ∀ i, i < l.length → l[i]? = some (s 32 i)
def zLm (s : az_S) (l : List Int) : Prop := s 34 14 = l.length ∧ ∀ i, i < l.length → l[i]? = some (s 40 i)
/-- alike but for the class's line -/
def zFl (s t : az_S) : Prop := (∀ i, i ≠ 30 → i ≠ 32 → t i = s i) ∧ t 30 0 = s 30 0 ∧ t 30 1 = s 30 1

