/-! WAYS: lengths, walks, what is least, and that it is one thing however it is found -/
def zln (S : zR) (m b : Nat) : Int := if m = 1 then ztk S b else zdue S b
def zed (S : zR) (b u v : Nat) : Prop := (zB S b 0 = u ∧ zB S b 1 = v) ∨ (zB S b 1 = u ∧ zB S b 0 = v)
def zwk (S : zR) (m f : Nat) : Nat → Nat → Int → Prop
  | 0, v, x => v = f ∧ x = 0
  | n + 1, v, x => ∃ b u, b < zn S 0 ∧ u < 6 ∧ zed S b u v ∧ zwk S m f n u (x - zln S m b)
/-- the least lengths from f to each; T stands for none -/
def zgd (S : zR) (m f : Nat) (T : Int) (D : Nat → Int) : Prop :=
  D f = 0 ∧ (∀ v, v < 6 → 0 ≤ D v ∧ D v ≤ T) ∧ (∀ b u v, b < zn S 0 → u < 6 → v < 6 → zed S b u v → D v ≤ D u + zln S m b) ∧ (∀ v, v < 6 → D v < T → ∃ n, zwk S m f n v (D v))
theorem zln_r {S : zR} {h : Nat} (hI : zInv S h) (hh : h ≤ 10000) {m b : Nat} (hb : b < zn S 0) : 0 ≤ zln S m b ∧ zln S m b ≤ 27 := by
  have h1 := zdue_r hI hh hb
  have h2 := ztk_r hI hh hb
  unfold zln
  split <;> omega
theorem zed_lt {S : zR} {h : Nat} (hI : zInv S h) (hh : h ≤ 10000) {b u v : Nat} (hb : b < zn S 0) (he : zed S b u v) : u < 6 ∧ v < 6 ∧ u ≠ v := by
  have h1 := zI_b hI hh hb
  unfold zed at he
  omega
theorem zed_s {S : zR} {b u v : Nat} (he : zed S b u v) : zed S b v u := by
  unfold zed at he ⊢
  omega
/-- no walk is shorter -/
theorem zwk_le {S : zR} {m f : Nat} {T : Int} {D : Nat → Int} (hD : zgd S m f T D) : ∀ (n v : Nat) (x : Int), v < 6 → zwk S m f n v x → D v ≤ x
  | 0, v, x, _, hw => by
    obtain ⟨rfl, rfl⟩ := hw
    exact Int.le_of_eq hD.1
  | n + 1, v, x, hv, ⟨b, u, hb, hu, he, hw⟩ => by
    have h1 := zwk_le hD n u _ hu hw
    have h2 := hD.2.2.1 b u v hb hu hv he
    omega
theorem zgap5 (a b c d e : Int) : ∃ j : Int, 0 ≤ j ∧ j ≤ 5 ∧ j ≠ a ∧ j ≠ b ∧ j ≠ c ∧ j ≠ d ∧ j ≠ e := by
  have key : ∀ (l : List Int) (n : Nat), l.length ≤ n → ∃ j : Int, 0 ≤ j ∧ j ≤ n ∧ j ∉ l := by
    intro l n
    induction n generalizing l with
    | zero => intro hl; exact ⟨0, by omega, by omega, by
        have : l = [] := List.length_eq_zero_iff.mp (by omega)
        rw [this]; exact List.not_mem_nil⟩
    | succ n ih =>
      intro hl
      by_cases hm : ((n + 1 : Nat) : Int) ∈ l
      · obtain ⟨j, h1, h2, h3⟩ := ih (l.erase ((n + 1 : Nat) : Int)) (by rw [List.length_erase_of_mem hm]; omega)
        refine ⟨j, h1, by omega, fun q => h3 ?_⟩
        exact (List.mem_erase_of_ne (by omega)).mpr q
      · exact ⟨((n + 1 : Nat) : Int), by omega, by omega, hm⟩
  obtain ⟨j, h1, h2, h3⟩ := key [a, b, c, d, e] 5 (Nat.le_refl 5)
  simp only [List.mem_cons, List.not_mem_nil, or_false, not_or] at h3
  exact ⟨j, h1, by omega, h3⟩
/-- what can be reached is near -/
theorem zwk_near {S : zR} {h : Nat} (hI : zInv S h) (hh : h ≤ 10000) {m f : Nat} (hf : f < 6) {T : Int} {D : Nat → Int} (hD : zgd S m f T D) : ∀ (n v : Nat) (x : Int), v < 6 → zwk S m f n v x → D v ≤ 135 := by
  have hj : ∃ j : Int, 0 ≤ j ∧ j ≤ 5 ∧ ∀ v, v < 6 → D v ≤ 27 * (j + 1) → D v ≤ 27 * j := by
    have e0 := hD.1
    have hr := hD.2.1
    have key : ∀ a b c d e : Nat, (∀ v, v < 6 → v ≠ f → v = a ∨ v = b ∨ v = c ∨ v = d ∨ v = e) → ∃ j : Int, 0 ≤ j ∧ j ≤ 5 ∧ ∀ v, v < 6 → D v ≤ 27 * (j + 1) → D v ≤ 27 * j := by
      intro a b c d e hab
      obtain ⟨j, h1, h2, h3, h4, h5, h6, h7⟩ := zgap5 ((D a - 1) / 27) ((D b - 1) / 27) ((D c - 1) / 27) ((D d - 1) / 27) ((D e - 1) / 27)
      refine ⟨j, h1, h2, fun v hv hl => ?_⟩
      by_cases q : v = f
      · rw [q, e0]; omega
      · rcases hab v hv q with rfl | rfl | rfl | rfl | rfl <;> omega
    have hf6 : f = 0 ∨ f = 1 ∨ f = 2 ∨ f = 3 ∨ f = 4 ∨ f = 5 := by omega
    rcases hf6 with rfl | rfl | rfl | rfl | rfl | rfl
    · exact key 1 2 3 4 5 (fun v _ _ => by omega)
    · exact key 0 2 3 4 5 (fun v _ _ => by omega)
    · exact key 0 1 3 4 5 (fun v _ _ => by omega)
    · exact key 0 1 2 4 5 (fun v _ _ => by omega)
    · exact key 0 1 2 3 5 (fun v _ _ => by omega)
    · exact key 0 1 2 3 4 (fun v _ _ => by omega)
  obtain ⟨j, j0, j5, hj⟩ := hj
  have key : ∀ (n v : Nat) (x : Int), v < 6 → zwk S m f n v x → D v ≤ 27 * j := by
    intro n
    induction n with
    | zero =>
      intro v x hv hw
      obtain ⟨rfl, rfl⟩ := hw
      rw [hD.1]; omega
    | succ n ih =>
      intro v x hv hw
      obtain ⟨b, u, hb, hu, he, hw⟩ := hw
      have h1 := ih u _ hu hw
      have h2 := hD.2.2.1 b u v hb hu hv he
      have h3 := zln_r hI hh (m := m) hb
      exact hj v hv (by omega)
  intro n v x hv hw
  have := key n v x hv hw
  omega
/-- the least lengths are one thing, whatever stands for none -/
theorem zgd_one {S : zR} {h : Nat} (hI : zInv S h) (hh : h ≤ 10000) {m f : Nat} (hf : f < 6) {T1 T2 : Int} (h1 : 135 < T1) (h2 : 135 < T2) {D1 D2 : Nat → Int} (hD1 : zgd S m f T1 D1) (hD2 : zgd S m f T2 D2) {v : Nat} (hv : v < 6) : (D1 v = T1 ∧ D2 v = T2) ∨ (D1 v = D2 v ∧ D1 v < T1 ∧ D2 v < T2 ∧ D1 v ≤ 135) := by
  have r1 := hD1.2.1 v hv
  have r2 := hD2.2.1 v hv
  by_cases q1 : D1 v < T1
  · obtain ⟨n, hw⟩ := hD1.2.2.2 v hv q1
    have k1 := zwk_near hI hh hf hD1 n v _ hv hw
    have k2 := zwk_near hI hh hf hD2 n v _ hv hw
    have k3 := zwk_le hD2 n v _ hv hw
    obtain ⟨n2, hw2⟩ := hD2.2.2.2 v hv (by omega)
    have k4 := zwk_le hD1 n2 v _ hv hw2
    right
    omega
  · by_cases q2 : D2 v < T2
    · obtain ⟨n, hw⟩ := hD2.2.2.2 v hv q2
      have k1 := zwk_near hI hh hf hD1 n v _ hv hw
      omega
    · left; omega
theorem zgd_ext {S : zR} {m f : Nat} (hf : f < 6) {T : Int} {D E : Nat → Int} (hD : zgd S m f T D) (he : ∀ v, v < 6 → E v = D v) : zgd S m f T E := by
  refine ⟨by rw [he f hf]; exact hD.1, fun v hv => by rw [he v hv]; exact hD.2.1 v hv, fun b u v hb hu hv h => by rw [he u hu, he v hv]; exact hD.2.2.1 b u v hb hu hv h, fun v hv h => by rw [he v hv] at h ⊢; exact hD.2.2.2 v hv h⟩
/-- where an estimate D is not yet least there is a bridge by which it gets better, from a land where it is -/
theorem zbet {S : zR} {m f : Nat} (hf : f < 6) {T : Int} {D E : Nat → Int} (hD : zgd S m f T D) (h0 : E f = 0) (hle : ∀ v, v < 6 → D v ≤ E v) : ∀ (n v : Nat), v < 6 → zwk S m f n v (D v) → E v = D v ∨ ∃ b u w, b < zn S 0 ∧ u < 6 ∧ w < 6 ∧ zed S b u w ∧ E u = D u ∧ D w < E w ∧ D w = D u + zln S m b
  | 0, v, hv, hw => by
    obtain ⟨h1, h2⟩ := hw
    left
    rw [h1, h0, hD.1]
  | n + 1, v, hv, ⟨b, u, hb, hu, he, hw⟩ => by
    have k1 := zwk_le hD n u _ hu hw
    have k2 := hD.2.2.1 b u v hb hu hv he
    have k3 : D v - zln S m b = D u := by omega
    rw [k3] at hw
    rcases zbet hf hD h0 hle n u hu hw with q | q
    · by_cases q2 : E v = D v
      · exact Or.inl q2
      · have := hle v hv
        exact Or.inr ⟨b, u, v, hb, hu, hv, he, q, by omega, by omega⟩
    · exact Or.inr q
