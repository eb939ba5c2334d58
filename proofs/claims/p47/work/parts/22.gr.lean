/-! WAYS: lengths, walks, what is least, and that it is one thing however it is found -/
def zln (S : zR) (m b : Nat) : Int := if m = 1 then ztk S b else zdue S b
def zed (S : zR) (b u v : Nat) : Prop := (zB S b 0 = u ∧ zB S b 1 = v) ∨ (zB S b 1 = u ∧ zB S b 0 = v)
def zwk (S : zR) (m f : Nat) : Nat → Nat → Int → Prop
  | 0, v, x => v = f ∧ x = 0
  | n + 1, v, x => ∃ b u, b < zn S 0 ∧ u < 6 ∧ zed S b u v ∧ zwk S m f n u (x - zln S m b)
/-- the least lengths from f to each; T stands for none -/
def zgd (S : zR) (m f : Nat) (T : Int) (D : Nat → Int) : Prop :=
  D f = 0 ∧ (∀ v, v < 6 → 0 ≤ D v ∧ D v ≤ T) ∧ (∀ b u v, b < zn S 0 → u < 6 → v < 6 → zed S b u v → D v ≤ D u + zln S m b) ∧ (∀ v, v < 6 → D v < T → ∃ n, zwk S m f n v (D v))
theorem zln_r {S : zR} {h : Nat} (hI : zInv S h) (hh : h ≤ 10000) {m b : Nat} (hb : b < zn S 0) : 0 ≤ zln S m b ∧ zln S m b ≤ 27 := by
  have h1 := zdue_r hI hh hb
  have h2 := ztk_r hI hh hb
  unfold zln
  split <;> omega
theorem zed_lt {S : zR} {h : Nat} (hI : zInv S h) (hh : h ≤ 10000) {b u v : Nat} (hb : b < zn S 0) (he : zed S b u v) : u < 6 ∧ v < 6 ∧ u ≠ v := by
  have h1 := zI_b hI hh hb
  unfold zed at he
  omega
theorem zed_s {S : zR} {b u v : Nat} (he : zed S b u v) : zed S b v u := by
  unfold zed at he ⊢
  omega
/-- no walk is shorter -/
theorem zwk_le {S : zR} {m f : Nat} {T : Int} {D : Nat → Int} (hD : zgd S m f T D) : ∀ (n v : Nat) (x : Int), v < 6 → zwk S m f n v x → D v ≤ x
  | 0, v, x, _, hw => by
    obtain ⟨rfl, rfl⟩ := hw
    exact Int.le_of_eq hD.1
  | n + 1, v, x, hv, ⟨b, u, hb, hu, he, hw⟩ => by
    have h1 := zwk_le hD n u _ hu hw
    have h2 := hD.2.2.1 b u v hb hu hv he
    omega
theorem zgap5 (a b c d e : Int) : ∃ j : Int, 0 ≤ j ∧ j ≤ 5 ∧ j ≠ a ∧ j ≠ b ∧ j ≠ c ∧ j ≠ d ∧ j ≠ e := by
  have key : ∀ (l : List Int) (n : Nat), l.length ≤ n → ∃ j : Int, 0 ≤ j ∧ j ≤ n ∧ j ∉ l := by
    intro l n
    induction n generalizing l with
    | zero => intro hl; exact ⟨0, by omega, by omega, by
        have : l = [] := List.length_eq_zero_iff.mp (by omega)
        rw [this]; exact List.not_mem_nil⟩
    | succ n ih =>
      intro hl
      by_cases hm : ((n + 1 : Nat) : Int) ∈ l
      · obtain ⟨j, h1, h2, h3⟩ := ih (l.erase ((n + 1 : Nat) : Int)) (by rw [List.length_erase_of_mem hm]; omega)
        refine ⟨j, h1, by omega, fun q => h3 ?_⟩
        exact (List.mem_erase_of_ne (by omega)).mpr q
      · exact ⟨((n + 1 : Nat) : Int), by omega, by omega, hm⟩
  obtain ⟨j, h1, h2, h3⟩ := key [a, b, c, d, e] 5 (Nat.le_refl 5)
  simp only [List.mem_cons, List.not_mem_nil, or_false, not_or] at h3
  exact ⟨j, h1, by omega, h3⟩
/-- what can be reached is near -/
theorem zwk_near {S : zR} {h : Nat} (hI : zInv S h) (hh : h ≤ 10000) {m f : Nat} (hf : f < 6) {T : Int} {D : Nat → Int} (hD : zgd S m f T D) : ∀ (n v : Nat) (x : Int), v < 6 → zwk S m f n v x → D v ≤ 135 := by
  have hj : ∃ j : Int, 0 ≤ j ∧ j ≤ 5 ∧ ∀ v, v < 6 → D v ≤ 27 * (j + 1) → D v ≤ 27 * j := by
    have e0 := hD.1
    have hr := hD.2.1
    have key : ∀ a b c d e : Nat, (∀ v, v < 6 → v ≠ f → v = a ∨ v = b ∨ v = c ∨ v = d ∨ v = e) → ∃ j : Int, 0 ≤ j ∧ j ≤ 5 ∧ ∀ v, v < 6 → D v ≤ 27 * (j + 1) → D v ≤ 27 * j := by
      intro a b c d e hab
      obtain ⟨j, h1, h2, h3, h4, h5, h6, h7⟩ := zgap5 ((D a - 1) / 27) ((D b - 1) / 27) ((D c - 1) / 27) ((D d - 1) / 27) ((D e - 1) / 27)
      refine ⟨j, h1, h2, fun v hv hl => ?_⟩
      by_cases q : v = f
      · rw [q, e0]; omega
      · rcases hab v hv q with rfl | rfl | rfl | rfl | rfl <;> omega
    have hf6 : f = 0 ∨ f = 1 ∨ f = 2 ∨ f = 3 ∨ f = 4 ∨ f = 5 := by omega
    rcases hf6 with rfl | rfl | rfl | rfl | rfl | rfl
    · exact key 1 2 3 4 5 (fun v _ _ => by omega)
    · exact key 0 2 3 4 5 (fun v _ _ => by omega)
    · exact key 0 1 3 4 5 (fun v _ _ => by omega)
    · exact key 0 1 2 4 5 (fun v _ _ => by omega)
    · exact key 0 1 2 3 5 (fun v _ _ => by omega)
    · exact key 0 1 2 3 4 (fun v _ _ => by omega)
  obtain ⟨j, j0, j5, hj⟩ := hj
  have key : ∀ (n v : Nat) (x : Int), v < 6 → zwk S m f n v x → D v ≤ 27 * j := by
    intro n
    induction n with
    | zero =>
      intro v x hv hw
      obtain ⟨rfl, rfl⟩ := hw
      rw [hD.1]; omega
    | succ n ih =>
      intro v x hv hw
      obtain ⟨b, u, hb, hu, he, hw⟩ := hw
      have h1 := ih u _ hu hw
      have h2 := hD.2.2.1 b u v hb hu hv he
      have h3 := zln_r hI hh (m := m) hb
      exact hj v hv (by omega)
  intro n v x hv hw
  have := key n v x hv hw
  omega
/-- the least lengths are one thing, whatever stands for none -/
theorem zgd_one {S : zR} {h : Nat} (hI : zInv S h) (hh : h ≤ 10000) {m f : Nat} (hf : f < 6) {T1 T2 : Int} (h1 : 135 < T1) (h2 : 135 < T2) {D1 D2 : Nat → Int} (hD1 : zgd S m f T1 D1) (hD2 : zgd S m f T2 D2) {v : Nat} (hv : v < 6) : (D1 v = T1 ∧ D2 v = T2) ∨ (D1 v = D2 v ∧ D1 v < T1 ∧ D2 v < T2 ∧ D1 v ≤ 135) := by
  have r1 := hD1.2.1 v hv
  have r2 := hD2.2.1 v hv
  by_cases q1 : D1 v < T1
  · obtain ⟨n, hw⟩ := hD1.2.2.2 v hv q1
    have k1 := zwk_near hI hh hf hD1 n v _ hv hw
    have k2 := zwk_near hI hh hf hD2 n v _ hv hw
    have k3 := zwk_le hD2 n v _ hv hw
    obtain ⟨n2, hw2⟩ := hD2.2.2.2 v hv (by omega)
    have k4 := zwk_le hD1 n2 v _ hv hw2
    right
    omega
  · by_cases q2 : D2 v < T2
    · obtain ⟨n, hw⟩ := hD2.2.2.2 v hv q2
      have k1 := zwk_near hI hh hf hD1 n v _ hv hw
      omega
    · left; omega
theorem zgd_ext {S : zR} {m f : Nat} (hf : f < 6) {T : Int} {D E : Nat → Int} (hD : zgd S m f T D) (he : ∀ v, v < 6 → E v = D v) : zgd S m f T E := by
  refine ⟨by rw [he f hf]; exact hD.1, fun v hv => by rw [he v hv]; exact hD.2.1 v hv, fun b u v hb hu hv h => by rw [he u hu, he v hv]; exact hD.2.2.1 b u v hb hu hv h, fun v hv h => by rw [he v hv] at h ⊢; exact hD.2.2.2 v hv h⟩
/-- where an estimate D is not yet least there is a bridge by which it gets better, from a land where it is -/
theorem zbet {S : zR} {m f : Nat} (hf : f < 6) {T : Int} {D E : Nat → Int} (hD : zgd S m f T D) (h0 : E f = 0) (hle : ∀ v, v < 6 → D v ≤ E v) : ∀ (n v : Nat), v < 6 → zwk S m f n v (D v) → E v = D v ∨ ∃ b u w, b < zn S 0 ∧ u < 6 ∧ w < 6 ∧ zed S b u w ∧ E u = D u ∧ D w < E w ∧ D w = D u + zln S m b
  | 0, v, hv, hw => by
    obtain ⟨h1, h2⟩ := hw
    left
    rw [h1, h0, hD.1]
  | n + 1, v, hv, ⟨b, u, hb, hu, he, hw⟩ => by
    have k1 := zwk_le hD n u _ hu hw
    have k2 := hD.2.2.1 b u v hb hu hv he
    have k3 : D v - zln S m b = D u := by omega
    rw [k3] at hw
    rcases zbet hf hD h0 hle n u hu hw with q | q
    · by_cases q2 : E v = D v
      · exact Or.inl q2
      · have := hle v hv
        exact Or.inr ⟨b, u, v, hb, hu, hv, he, q, by omega, by omega⟩
    · exact Or.inr q
/-- an estimate: never too small -/
def zes (S : zR) (m f : Nat) (T : Int) (D : Nat → Int) : Prop := D f = 0 ∧ (∀ v, v < 6 → 0 ≤ D v ∧ D v ≤ T) ∧ (∀ v, v < 6 → D v < T → ∃ n, zwk S m f n v (D v))
/-- a land made nearer over a bridge -/
def zrl (D : Nat → Int) (u v : Nat) (l : Int) : Nat → Int := fun w => if w = v then (if D u + l < D v then D u + l else D v) else D w
theorem zrl_le (D : Nat → Int) (u v : Nat) (l : Int) (w : Nat) : zrl D u v l w ≤ D w := by
  unfold zrl
  by_cases q : w = v
  · rw [if_pos q, q]; split <;> omega
  · rw [if_neg q]; omega
theorem zrl_at (D : Nat → Int) (u v : Nat) (l : Int) : zrl D u v l v ≤ D u + l := by
  unfold zrl
  rw [if_pos rfl]
  split <;> omega
theorem zrl_c (D : Nat → Int) (u v : Nat) (l : Int) (w : Nat) : zrl D u v l w = D w ∨ (w = v ∧ zrl D u v l w = D u + l ∧ D u + l < D v) := by
  unfold zrl
  by_cases q : w = v
  · rw [if_pos q, q]
    by_cases q2 : D u + l < D v
    · rw [if_pos q2]; exact Or.inr ⟨rfl, rfl, q2⟩
    · rw [if_neg q2]; exact Or.inl rfl
  · rw [if_neg q]; exact Or.inl rfl
theorem zrl_up {s : az_S} {A u v : Nat} {l : Int} (h : s A u + l < s A v) : (am_up s A v (s A u + l)) A = zrl (s A) u v l := by
  funext w
  unfold zrl am_up
  rw [if_pos rfl]
  by_cases q : w = v
  · rw [if_pos q, if_pos q, if_pos h]
  · rw [if_neg q, if_neg q]
theorem zrl_no {D : Nat → Int} {u v : Nat} {l : Int} (h : ¬ D u + l < D v) : zrl D u v l = D := by
  funext w
  unfold zrl
  by_cases q : w = v
  · rw [if_pos q, if_neg h, q]
  · rw [if_neg q]
theorem zes_rl {S : zR} {h : Nat} (hI : zInv S h) (hh : h ≤ 10000) {m f b u v : Nat} {T : Int} {D : Nat → Int} (hf : f < 6) (hb : b < zn S 0) (he : zed S b u v) (hD : zes S m f T D) : zes S m f T (zrl D u v (zln S m b)) := by
  obtain ⟨h1, h2, h3⟩ := hD
  have hl := zln_r hI hh (m := m) hb
  have hlt := zed_lt hI hh hb he
  have ru := h2 u hlt.1
  have rv := h2 v hlt.2.1
  refine ⟨?_, fun w hw => ?_, fun w hw hT => ?_⟩
  · rcases zrl_c D u v (zln S m b) f with q | ⟨q1, q2, q3⟩
    · rw [q, h1]
    · rw [← q1, h1] at q3; omega
  · have rw_ := h2 w hw
    rcases zrl_c D u v (zln S m b) w with q | ⟨q1, q2, q3⟩
    · rw [q]; exact rw_
    · rw [q2]; omega
  · rcases zrl_c D u v (zln S m b) w with q | ⟨q1, q2, q3⟩
    · rw [q] at hT ⊢; exact h3 w hw hT
    · rw [q2] at hT ⊢
      obtain ⟨n, hn⟩ := h3 u hlt.1 (by omega)
      refine ⟨n + 1, b, u, hb, hlt.1, by rw [q1]; exact he, ?_⟩
      rw [show D u + zln S m b - zln S m b = D u from by omega]
      exact hn
theorem zac_ed {S : zR} {h : Nat} (hI : zInv S h) (hh : h ≤ 10000) {b w : Nat} (hb : b < zn S 0) (hw : w < 6) : (zac S b w = -1 → ∀ v, ¬ zed S b w v) ∧ (∀ v : Nat, zac S b w = v → zed S b w v) ∧ -1 ≤ zac S b w ∧ zac S b w < 6 := by
  have h1 := zI_b hI hh hb
  unfold zac zed
  split
  · refine ⟨fun q => by omega, fun v q => Or.inl ⟨by omega, by omega⟩, by omega, by omega⟩
  · split
    · refine ⟨fun q => by omega, fun v q => Or.inr ⟨by omega, by omega⟩, by omega, by omega⟩
    · refine ⟨fun q v hv => by omega, fun v q => by omega, by omega, by omega⟩
/-- land by land: between the rounds, within one -/
def zDo (S : zR) (m f : Nat) (D P : Nat → Int) (r : Nat) : Prop := zes S m f 1000 D ∧ (∀ v, v < 6 → P v = 0 ∨ P v = 1) ∧ (∀ b u v, b < zn S 0 → u < 6 → v < 6 → zed S b u v → P u = 1 → D v ≤ D u + zln S m b) ∧ (∀ u v, u < 6 → v < 6 → P u = 1 → P v = 0 → D u ≤ D v) ∧ zs 6 P = r
def zDj (S : zR) (m f : Nat) (D0 P : Nat → Int) (w k : Nat) (D : Nat → Int) : Prop := zes S m f 1000 D ∧ (∀ v, v < 6 → D v ≤ D0 v) ∧ (∀ v, v < 6 → P v = 1 → D v = D0 v) ∧ (∀ v, v < 6 → P v = 0 → D0 w ≤ D v) ∧ (∀ j v, j < k → v < 6 → zed S j w v → D v ≤ D0 w + zln S m j)
theorem zDj_no {S : zR} {h : Nat} (hI : zInv S h) (hh : h ≤ 10000) {m f w k : Nat} {D0 P D : Nat → Int} (hk : k < zn S 0) (hw : w < 6) (hz : zac S k w = -1) (hj : zDj S m f D0 P w k D) : zDj S m f D0 P w (k + 1) D := by
  obtain ⟨h1, h2, h3, h4, h5⟩ := hj
  refine ⟨h1, h2, h3, h4, fun j v hj hv he => ?_⟩
  by_cases q : j = k
  · subst q; exact absurd he ((zac_ed hI hh hk hw).1 hz v)
  · exact h5 j v (by omega) hv he
theorem zDj_st {S : zR} {h : Nat} (hI : zInv S h) (hh : h ≤ 10000) {m f w k v : Nat} {D0 P D : Nat → Int} (hf : f < 6) (hk : k < zn S 0) (hw : w < 6) (hP : P w = 1) (hu : ∀ u, u < 6 → P u = 1 → D0 u ≤ D0 w) (hz : zac S k w = v) (hj : zDj S m f D0 P w k D) : zDj S m f D0 P w (k + 1) (zrl D w v (zln S m k)) := by
  obtain ⟨h1, h2, h3, h4, h5⟩ := hj
  have he := (zac_ed hI hh hk hw).2.1 v hz
  have hl := zln_r hI hh (m := m) hk
  have hlt := zed_lt hI hh hk he
  have hDw := h3 w hw hP
  refine ⟨zes_rl hI hh hf hk he h1, fun x hx => Int.le_trans (zrl_le _ _ _ _ _) (h2 x hx), fun x hx hPx => ?_, fun x hx hPx => ?_, fun j x hj hx hex => ?_⟩
  · rcases zrl_c D w v (zln S m k) x with q | ⟨q1, q2, q3⟩
    · rw [q]; exact h3 x hx hPx
    · subst q1
      have := hu x hx hPx
      have := h3 x hx hPx
      omega
  · rcases zrl_c D w v (zln S m k) x with q | ⟨q1, q2, q3⟩
    · rw [q]; exact h4 x hx hPx
    · rw [q2]; omega
  · by_cases q : j = k
    · subst q
      have : x = v := by
        have h9 := zI_b hI hh hk
        unfold zed at he hex
        omega
      subst this
      have := zrl_at D w x (zln S m j)
      omega
    · exact Int.le_trans (zrl_le _ _ _ _ _) (h5 j x (by omega) hx hex)
theorem zs_pt {n : Nat} {f g : Nat → Int} (i : Nat) (hi : i < n) (h : ∀ j, j < n → j ≠ i → g j = f j) (hv : g i = f i + 1) : zs n g = zs n f + 1 := by
  rw [zs_upd i hi h]; omega
theorem zDo_nx {S : zR} {m f w r : Nat} {D0 P D Q : Nat → Int} (hw : w < 6) (hPw : P w = 0) (hQ : ∀ v, v < 6 → Q v = if v = w then 1 else P v) (hmin : ∀ v, v < 6 → P v = 0 → D0 w ≤ D0 v) (ho : zDo S m f D0 P r) (hj : zDj S m f D0 Q w (zn S 0) D) : zDo S m f D Q (r + 1) := by
  obtain ⟨a1, a2, a3, a4, a5⟩ := ho
  obtain ⟨b1, b2, b3, b4, b5⟩ := hj
  refine ⟨b1, fun v hv => ?_, fun b u v hb hu hv he hQu => ?_, fun u v hu hv hQu hQv => ?_, ?_⟩
  · rw [hQ v hv]; split
    · exact Or.inr rfl
    · exact a2 v hv
  · rw [b3 u hu hQu]
    by_cases q : u = w
    · subst q; exact b5 b v hb hv he
    · rw [hQ u hu, if_neg q] at hQu
      exact Int.le_trans (b2 v hv) (a3 b u v hb hu hv he hQu)
  · rw [b3 u hu hQu]
    have k1 := b4 v hv hQv
    by_cases q : u = w
    · rw [q]; exact k1
    · rw [hQ u hu, if_neg q] at hQu
      exact Int.le_trans (a4 u w hu hw hQu hPw) k1
  · rw [zs_pt (f := P) (g := Q) w hw (fun j hj hne => by rw [hQ j hj, if_neg hne]) (by rw [hQ w hw, if_pos rfl, hPw]; rfl), a5]
    omega
theorem zDj_0 {S : zR} {m f w r : Nat} {D0 P Q : Nat → Int} (hw : w < 6) (hQ : ∀ v, v < 6 → Q v = if v = w then 1 else P v) (hmin : ∀ v, v < 6 → P v = 0 → D0 w ≤ D0 v) (ho : zDo S m f D0 P r) : zDj S m f D0 Q w 0 D0 := by
  refine ⟨ho.1, fun v _ => Int.le_refl _, fun v _ _ => rfl, fun v hv hq => ?_, fun j v hj => absurd hj (by omega)⟩
  rw [hQ v hv] at hq
  by_cases q : v = w
  · rw [if_pos q] at hq; omega
  · rw [if_neg q] at hq; exact hmin v hv hq
theorem zDo_6 {S : zR} {m f : Nat} {D P : Nat → Int} (ho : zDo S m f D P 6) : zgd S m f 1000 D := by
  obtain ⟨⟨e1, e2, e3⟩, a2, a3, a4, a5⟩ := ho
  have hall : ∀ v, v < 6 → P v = 1 := by
    have p0 := a2 0 (by omega)
    have p1 := a2 1 (by omega)
    have p2 := a2 2 (by omega)
    have p3 := a2 3 (by omega)
    have p4 := a2 4 (by omega)
    have p5 := a2 5 (by omega)
    simp only [zs] at a5
    intro v hv
    have hv6 : v = 0 ∨ v = 1 ∨ v = 2 ∨ v = 3 ∨ v = 4 ∨ v = 5 := by omega
    rcases hv6 with rfl | rfl | rfl | rfl | rfl | rfl <;> omega
  exact ⟨e1, e2, fun b u v hb hu hv he => a3 b u v hb hu hv he (hall u hu), e3⟩
theorem zDo_none {S : zR} {h : Nat} (hI : zInv S h) (hh : h ≤ 10000) {m f r : Nat} {D P : Nat → Int} (ho : zDo S m f D P r) (hn : ∀ v, v < 6 → P v = 0 → 1000 ≤ D v) : zgd S m f 1000 D := by
  obtain ⟨⟨e1, e2, e3⟩, a2, a3, a4, a5⟩ := ho
  refine ⟨e1, e2, fun b u v hb hu hv he => ?_, e3⟩
  have hl := zln_r hI hh (m := m) hb
  rcases a2 u hu with q | q
  · have := hn u hu q
    have := e2 v hv
    omega
  · exact a3 b u v hb hu hv he q
/-- bridge by bridge: within a round that began with D0; c: whether something became nearer -/
def zBj (S : zR) (m f : Nat) (T : Int) (D0 : Nat → Int) (k : Nat) (D : Nat → Int) (c : Int) : Prop := zes S m f T D ∧ (∀ v, v < 6 → D v ≤ D0 v) ∧ (∀ j u v, j < k → u < 6 → v < 6 → zed S j u v → D v ≤ D0 u + zln S m j) ∧ ((c = 0 ∧ ∀ v, v < 6 → D v = D0 v) ∨ (c = 1 ∧ zs 6 D < zs 6 D0))
theorem zs_lt {n : Nat} {f g : Nat → Int} (h : ∀ i, i < n → f i ≤ g i) : zs n f ≤ zs n g := by
  induction n with
  | zero => exact Int.le_refl _
  | succ n ih =>
    have := ih (fun i hi => h i (by omega))
    have := h n (by omega)
    unfold zs
    omega
theorem zrl_sum {D : Nat → Int} {u v : Nat} {l : Int} (hv : v < 6) : zs 6 (zrl D u v l) ≤ zs 6 D ∧ (D u + l < D v → zs 6 (zrl D u v l) < zs 6 D) := by
  refine ⟨zs_lt (fun i _ => zrl_le D u v l i), fun q => ?_⟩
  have := zs_upd (n := 6) (f := D) (g := zrl D u v l) v hv (fun j hj hne => by unfold zrl; rw [if_neg hne])
  have e : zrl D u v l v = D u + l := by unfold zrl; rw [if_pos rfl, if_pos q]
  omega
theorem zBj_st {S : zR} {h : Nat} (hI : zInv S h) (hh : h ≤ 10000) {m f k e0 e1 : Nat} {T : Int} {D0 D : Nat → Int} {c c2 : Int} (hf : f < 6) (hk : k < zn S 0) (h0 : zB S k 0 = e0) (h1 : zB S k 1 = e1) (hj : zBj S m f T D0 k D c)
    (hc : (c2 = 0 ∧ c = 0 ∧ ¬ D e0 + zln S m k < D e1 ∧ ¬ zrl D e0 e1 (zln S m k) e1 + zln S m k < zrl D e0 e1 (zln S m k) e0) ∨ (c2 = 1 ∧ (c = 1 ∨ D e0 + zln S m k < D e1 ∨ zrl D e0 e1 (zln S m k) e1 + zln S m k < zrl D e0 e1 (zln S m k) e0))) : zBj S m f T D0 (k + 1) (zrl (zrl D e0 e1 (zln S m k)) e1 e0 (zln S m k)) c2 := by
  obtain ⟨a1, a2, a3, a4⟩ := hj
  have he : zed S k e0 e1 := Or.inl ⟨h0, h1⟩
  have hlt := zed_lt hI hh hk he
  have hl := zln_r hI hh (m := m) hk
  refine ⟨zes_rl hI hh hf hk (zed_s he) (zes_rl hI hh hf hk he a1), fun v hv => Int.le_trans (zrl_le _ _ _ _ _) (Int.le_trans (zrl_le _ _ _ _ _) (a2 v hv)), fun j u v hj hu hv hed => ?_, ?_⟩
  · by_cases q : j = k
    · subst q
      have k1 := zrl_at D e0 e1 (zln S m j)
      have k2 := zrl_at (zrl D e0 e1 (zln S m j)) e1 e0 (zln S m j)
      have k3 := zrl_le (zrl D e0 e1 (zln S m j)) e1 e0 (zln S m j) e1
      have k4 := zrl_le D e0 e1 (zln S m j) e1
      have k5 := a2 e0 hlt.1
      have k6 := a2 e1 hlt.2.1
      have huv : (u = e0 ∧ v = e1) ∨ (u = e1 ∧ v = e0) := by
        unfold zed at hed
        omega
      rcases huv with ⟨rfl, rfl⟩ | ⟨rfl, rfl⟩ <;> omega
    · exact Int.le_trans (zrl_le _ _ _ _ _) (Int.le_trans (zrl_le _ _ _ _ _) (a3 j u v (by omega) hu hv hed))
  · have s1 := zrl_sum (D := D) (u := e0) (l := zln S m k) hlt.2.1
    have s2 := zrl_sum (D := zrl D e0 e1 (zln S m k)) (u := e1) (l := zln S m k) hlt.1
    rcases hc with ⟨c1, c3, c4, c5⟩ | ⟨c1, c3⟩
    · left
      rcases a4 with ⟨_, a4⟩ | ⟨a4, _⟩
      · refine ⟨c1, fun v hv => ?_⟩
        rw [zrl_no c5, zrl_no c4]
        exact a4 v hv
      · omega
    · right
      have s3 := zs_lt (n := 6) (f := D) (g := D0) a2
      rcases c3 with c3 | c3 | c3
      · rcases a4 with ⟨a4, _⟩ | ⟨_, a4⟩
        · omega
        · exact ⟨c1, by omega⟩
      · have := s1.2 c3
        exact ⟨c1, by omega⟩
      · have := s2.2 c3
        exact ⟨c1, by omega⟩
/-- a round in which nothing became nearer: all is least -/
theorem zBj_end {S : zR} {m f : Nat} {T : Int} {D0 D : Nat → Int} (hj : zBj S m f T D0 (zn S 0) D 0) : zgd S m f T D := by
  obtain ⟨a1, a2, a3, a4⟩ := hj
  have a5 : ∀ v, v < 6 → D v = D0 v := by
    rcases a4 with ⟨_, a4⟩ | ⟨a4, _⟩
    · exact a4
    · omega
  exact ⟨a1.1, a1.2.1, fun b u v hb hu hv he => by rw [a5 u hu]; exact a3 b u v hb hu hv he, a1.2.2⟩
/-- how many lands have their least length -/
def zeq (D E : Nat → Int) : Int := zs 6 (fun v => az_b (D v = E v))
theorem zBj_more {S : zR} {m f : Nat} (hf : f < 6) {T : Int} {D0 D E : Nat → Int} {c : Int} (hE : zgd S m f T E) (h0 : zes S m f T D0) (hle : ∀ v, v < 6 → E v ≤ D0 v) (hj : zBj S m f T D0 (zn S 0) D c) : (∀ v, v < 6 → E v ≤ D v) ∧ ((∀ v, v < 6 → D v = E v) ∨ zeq D0 E + 1 ≤ zeq D E) := by
  obtain ⟨a1, a2, a3, a4⟩ := hj
  have lo : ∀ v, v < 6 → E v ≤ D v := fun v hv => by
    by_cases q : D v < T
    · obtain ⟨n, hn⟩ := a1.2.2 v hv q
      exact zwk_le hE n v _ hv hn
    · have := hE.2.1 v hv; omega
  refine ⟨lo, ?_⟩
  by_cases hall : ∀ v, v < 6 → D0 v = E v
  · left
    intro v hv
    have := hall v hv
    have := a2 v hv
    have := lo v hv
    omega
  · right
    obtain ⟨v, hv⟩ := Classical.not_forall.mp hall
    obtain ⟨hv, hne⟩ := Classical.not_imp.mp hv
    have hlv := hle v hv
    have := (h0.2.1 v hv).2
    obtain ⟨n, hn⟩ := hE.2.2.2 v hv (by omega)
    rcases zbet hf hE h0.1 hle n v hv hn with q | ⟨b, u, w, hb, hu, hw, he, q1, q2, q3⟩
    · exact absurd q hne
    · have k1 := a3 b u w hb hu hw he
      have k2 := lo w hw
      have key : ∀ x, x < 6 → az_b (D0 x = E x) ≤ az_b (D x = E x) := fun x hx => by
        by_cases q : D0 x = E x
        · have := a2 x hx
          have := lo x hx
          rw [az_b1 q, az_b1 (by omega)]
          exact Int.le_refl _
        · rw [az_b0 q]
          unfold az_b
          split <;> decide
      have e1 : az_b (D0 w = E w) = 0 := az_b0 (by omega)
      have e2 : az_b (D w = E w) = 1 := az_b1 (by omega)
      have s1 := zs_upd (n := 6) (f := fun x => az_b (D x = E x)) (g := fun x => if x = w then 0 else az_b (D x = E x)) w hw (fun j hj hne => by rw [if_neg hne])
      rw [if_pos rfl, e2] at s1
      have s2 := zs_lt (n := 6) (f := fun x => az_b (D0 x = E x)) (g := fun x => if x = w then 0 else az_b (D x = E x)) (fun i hi => by
        by_cases q : i = w
        · rw [if_pos q, q, e1]; exact Int.le_refl _
        · rw [if_neg q]; exact key i hi)
      unfold zeq
      omega
theorem zeq_r (D E : Nat → Int) : 0 ≤ zeq D E ∧ zeq D E ≤ 6 := by
  have := zs_le (n := 6) (f := fun v => az_b (D v = E v)) (a := 0) (b := 1) (fun v _ => by unfold az_b; split <;> decide)
  unfold zeq
  omega
theorem zes_0 {S : zR} {m f : Nat} {T : Int} (hT : 0 ≤ T) {D : Nat → Int} (hf : f < 6) (hD : ∀ v, v < 6 → D v = if v = f then 0 else T) : zes S m f T D := by
  refine ⟨by rw [hD f hf, if_pos rfl], fun v hv => ?_, fun v hv h => ?_⟩
  · rw [hD v hv]; split <;> omega
  · rw [hD v hv] at h ⊢
    by_cases q : v = f
    · rw [if_pos q]; exact ⟨0, q, rfl⟩
    · rw [if_neg q] at h; omega

