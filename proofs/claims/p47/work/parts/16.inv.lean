/-! WHAT HOLDS OF THE ROW STAYS: written by program -/
theorem zIg_ext {S T : zR} {h h2 g : Nat} (hle : h ≤ h2) (e2 : T 2 = S 2) (hg : ∀ k, k < 5 → zG T g k = zG S g k) (hp : ∀ b, b < 10 → zB T b (7 + g) = zB S b (7 + g)) (hI : zIg S h g) : zIg T h2 g := by
  obtain ⟨f1, f2, f3, f4, f5, f6, f7, f8, f9, f10, f11⟩ := hI
  have e3 : zn T 2 = zn S 2 := by unfold zn; rw [e2]
  have e4 : zs 10 (fun b => zB T b (7 + g)) = zs 10 (fun b => zB S b (7 + g)) := zs_ext (fun b hb => hp b hb)
  unfold zIg
  rw [hg 0 (by omega), hg 1 (by omega), hg 2 (by omega), hg 3 (by omega), hg 4 (by omega), e3, e4]
  refine ⟨f1, f2, f3, f4, f5, f6, f7, by omega, f9, by omega, f11⟩
theorem zInv_ext {S T : zR} {h h2 : Nat} (hI : zInv S h) (hle : h ≤ h2)
    (e0 : T 0 = S 0) (e1 : T 1 = S 1) (e2 : T 2 = S 2) (e5 : T 5 = S 5) (c3 : 0 ≤ T 3 ∧ T 3 ≤ 48 * h2)
    (cB : ∀ b, b < zn S 0 → zB T b 0 = zB S b 0 ∧ zB T b 1 = zB S b 1 ∧ zB T b 2 = zB S b 2)
    (cL : ∀ b, b < zn S 0 → 0 ≤ zB T b 3 ∧ zB T b 3 ≤ 9)
    (cD : ∀ b, b < zn S 0 → -1 ≤ zB T b 5 ∧ zB T b 5 < S 2 ∧ (0 ≤ zB T b 5 → 0 ≤ zat T b))
    (cF : ∀ b, b < 10 → (zB T b 4 = zB S b 4 ∧ zB T b 6 = zB S b 6) ∨ (b < zn S 0 ∧ 0 ≤ zB T b 4 ∧ zB T b 4 ≤ 48 * h2 + 48 ∧ 0 ≤ zB T b 6 ∧ zB T b 6 ≤ h2))
    (cP : ∀ b g, b < 10 → g < 5 → zB T b (7 + g) = zB S b (7 + g) ∨ (b < zn S 0 ∧ g < zn S 2 ∧ 0 ≤ zB T b (7 + g)))
    (cT : ∀ t, t < 6 → (-1 ≤ zT T t 0 ∧ zT T t 0 < 10) ∧ (0 ≤ zT T t 1 ∧ zT T t 1 ≤ 495 * h2) ∧ (0 ≤ zT T t 2 ∧ zT T t 2 ≤ 9) ∧ (0 ≤ zT T t 3 ∧ zT T t 3 ≤ 48 * h2 + 48 ∧ (0 < zT T t 3 → 1 ≤ zT T t 2)))
    (cN : ∀ t, t < zn S 1 → zT T t 0 < S 0)
    (cE : ∀ t u, t < zn S 1 → u < zn S 1 → zT T t 0 = zT T u 0 → zT T t 0 = -1 ∨ t = u)
    (cG : ∀ g, g < 5 → zIg T h2 g)
    (c4 : T 4 = zs 5 (fun g => zG T g 4)) : zInv T h2 := by
  obtain ⟨h1, hb, hc, ht, hg, hn, hd, h4⟩ := hI
  have n0 : zn T 0 = zn S 0 := by unfold zn; rw [e0]
  have n1 : zn T 1 = zn S 1 := by unfold zn; rw [e1]
  have n2 : zn T 2 = zn S 2 := by unfold zn; rw [e2]
  refine ⟨?_, fun b hb2 => ?_, fun b hb2 => ?_, fun t ht2 => ?_, cG, ?_, ?_, c4⟩
  · rw [e0, e1, e2, e5]
    omega
  · rw [n0] at hb2
    obtain ⟨q1, q2, q3⟩ := cB b hb2
    have q4 := cL b hb2
    have q5 := cD b hb2
    obtain ⟨a1, a2, a3⟩ := hb b hb2
    unfold zIb
    rw [q1, q2, q3, e2]
    exact ⟨a1, ⟨a2.1, a2.2.1, q4⟩, q5⟩
  · obtain ⟨a1, a2, a3, a4, a5, a6, a7⟩ := hc b hb2
    unfold zIc
    rw [n0, n2]
    have a8 : ∀ g, g < 5 → 0 ≤ zB T b (7 + g) := fun g hg2 => by
      rcases cP b g hb2 hg2 with q | q
      · rw [q]; exact a5 g hg2
      · exact q.2.2
    have a9 : ∀ g, g < 5 → zn S 2 ≤ g → zB T b (7 + g) = 0 := fun g hg2 hg3 => by
      rcases cP b g hb2 hg2 with q | q
      · rw [q]; exact a6 g hg2 hg3
      · omega
    have a10 : ∀ g, g < 5 → zn S 0 ≤ b → zB T b (7 + g) = 0 := fun g hg2 hg3 => by
      rcases cP b g hb2 hg2 with q | q
      · rw [q]; exact (a7 hg3).2.2 g hg2
      · omega
    rcases cF b hb2 with ⟨q1, q2⟩ | ⟨q1, q2, q3, q4, q5⟩
    · rw [q1, q2]
      exact ⟨a1, by omega, a3, by omega, a8, a9, fun w => ⟨(a7 w).1, (a7 w).2.1, fun g hg2 => a10 g hg2 w⟩⟩
    · exact ⟨q2, q3, q4, q5, a8, a9, fun w => absurd q1 (by omega)⟩
  · obtain ⟨q1, q2, q3, q4⟩ := cT t ht2
    exact ⟨q1.1, q1.2, q2.1, q2.2, q3.1, q3.2, q4.1, q4.2.1, q4.2.2⟩
  · rw [n1, e0]; exact cN
  · rw [n1]; exact cE

theorem zV_hour {S : zR} {h h2 : Nat} (hI : zInv S h) (hle : h ≤ h2) {v : Int} (hv : 0 ≤ v ∧ v ≤ 48 * h2) : zInv (zup S (3) v) h2 := by
  have hn := zn_le hI
  have hz := hI.1
  have hzn := zn_eq hI
  exact zInv_ext hI hle (zup_ne _ _ (by omega)) (zup_ne _ _ (by omega)) (zup_ne _ _ (by omega)) (zup_ne _ _ (by omega)) ⟨by rw [zup_eq]; omega, by rw [zup_eq]; omega⟩
    (fun b2 hb2 => ⟨zup_ne _ _ (by omega), zup_ne _ _ (by omega), zup_ne _ _ (by omega)⟩)
    (fun b2 hb2 => by
    have q := (hI.2.1 b2 hb2).2.1
    rw [show zB (zup S (3) v) b2 3 = zB S b2 3 from zup_ne _ _ (by omega)]
    omega)
    (fun b2 hb2 => by
    have q := (hI.2.1 b2 hb2).2.2
    rw [show zB (zup S (3) v) b2 5 = zB S b2 5 from zup_ne _ _ (by omega), zat_up b2 (by omega) (fun u hu => by omega)]
    exact q)
    (fun b2 hb2 => Or.inl ⟨zup_ne _ _ (by omega), zup_ne _ _ (by omega)⟩)
    (fun b2 g2 hb2 hg2 => Or.inl (zup_ne _ _ (by omega)))
    (fun u hu => by
    have q := hI.2.2.2.1 u hu
    unfold zIt at q
    rw [show zT (zup S (3) v) u 0 = zT S u 0 from zup_ne _ _ (by omega), show zT (zup S (3) v) u 1 = zT S u 1 from zup_ne _ _ (by omega), show zT (zup S (3) v) u 2 = zT S u 2 from zup_ne _ _ (by omega), show zT (zup S (3) v) u 3 = zT S u 3 from zup_ne _ _ (by omega)]
    omega)
    (fun u hu => by
    rw [show zT (zup S (3) v) u 0 = zT S u 0 from zup_ne _ _ (by omega)]
    exact hI.2.2.2.2.2.1 u hu)
    (fun u w hu hw => by
    rw [show zT (zup S (3) v) u 0 = zT S u 0 from zup_ne _ _ (by omega), show zT (zup S (3) v) w 0 = zT S w 0 from zup_ne _ _ (by omega)]
    exact hI.2.2.2.2.2.2.1 u w hu hw)
    (fun g2 hg2 => zIg_ext hle (zup_ne _ _ (by omega)) (fun k hk => zup_ne _ _ (by omega)) (fun b2 hb2 => zup_ne _ _ (by omega)) (hI.2.2.2.2.1 g2 hg2))
    (by
    rw [zup_ne _ _ (by omega), hI.2.2.2.2.2.2.2]
    exact zs_ext (fun g2 hg2 => (show zG (zup S (3) v) g2 4 = zG S g2 4 from zup_ne _ _ (by omega)).symm))

theorem zV_toll {S : zR} {h h2 : Nat} (hI : zInv S h) (hle : h ≤ h2) {b : Nat} (hb : b < zn S 0) {v : Int} (hv : 0 ≤ v ∧ v ≤ 9) : zInv (zup S (6 + 12 * b + 3) v) h2 := by
  have hn := zn_le hI
  have hz := hI.1
  have hzn := zn_eq hI
  exact zInv_ext hI hle (zup_ne _ _ (by omega)) (zup_ne _ _ (by omega)) (zup_ne _ _ (by omega)) (zup_ne _ _ (by omega)) ⟨by rw [zup_ne _ _ (by omega)]; omega, by rw [zup_ne _ _ (by omega)]; omega⟩
    (fun b2 hb2 => ⟨zup_ne _ _ (by omega), zup_ne _ _ (by omega), zup_ne _ _ (by omega)⟩)
    (fun b2 hb2 => by
    have q := (hI.2.1 b2 hb2).2.1
    by_cases w : b2 = b
    · subst w
      rw [show zB (zup S (6 + 12 * b2 + 3) v) b2 3 = v from zup_eq _ _ _]
      exact hv
    · rw [show zB (zup S (6 + 12 * b + 3) v) b2 3 = zB S b2 3 from zup_ne _ _ (by omega)]
      omega)
    (fun b2 hb2 => by
    have q := (hI.2.1 b2 hb2).2.2
    rw [show zB (zup S (6 + 12 * b + 3) v) b2 5 = zB S b2 5 from zup_ne _ _ (by omega), zat_up b2 (by omega) (fun u hu => by omega)]
    exact q)
    (fun b2 hb2 => Or.inl ⟨zup_ne _ _ (by omega), zup_ne _ _ (by omega)⟩)
    (fun b2 g2 hb2 hg2 => Or.inl (zup_ne _ _ (by omega)))
    (fun u hu => by
    have q := hI.2.2.2.1 u hu
    unfold zIt at q
    rw [show zT (zup S (6 + 12 * b + 3) v) u 0 = zT S u 0 from zup_ne _ _ (by omega), show zT (zup S (6 + 12 * b + 3) v) u 1 = zT S u 1 from zup_ne _ _ (by omega), show zT (zup S (6 + 12 * b + 3) v) u 2 = zT S u 2 from zup_ne _ _ (by omega), show zT (zup S (6 + 12 * b + 3) v) u 3 = zT S u 3 from zup_ne _ _ (by omega)]
    omega)
    (fun u hu => by
    rw [show zT (zup S (6 + 12 * b + 3) v) u 0 = zT S u 0 from zup_ne _ _ (by omega)]
    exact hI.2.2.2.2.2.1 u hu)
    (fun u w hu hw => by
    rw [show zT (zup S (6 + 12 * b + 3) v) u 0 = zT S u 0 from zup_ne _ _ (by omega), show zT (zup S (6 + 12 * b + 3) v) w 0 = zT S w 0 from zup_ne _ _ (by omega)]
    exact hI.2.2.2.2.2.2.1 u w hu hw)
    (fun g2 hg2 => zIg_ext hle (zup_ne _ _ (by omega)) (fun k hk => zup_ne _ _ (by omega)) (fun b2 hb2 => zup_ne _ _ (by omega)) (hI.2.2.2.2.1 g2 hg2))
    (by
    rw [zup_ne _ _ (by omega), hI.2.2.2.2.2.2.2]
    exact zs_ext (fun g2 hg2 => (show zG (zup S (6 + 12 * b + 3) v) g2 4 = zG S g2 4 from zup_ne _ _ (by omega)).symm))

theorem zV_fog {S : zR} {h h2 : Nat} (hI : zInv S h) (hle : h ≤ h2) {b : Nat} (hb : b < zn S 0) {v : Int} (hv : 0 ≤ v ∧ v ≤ 48 * h2 + 48) : zInv (zup S (6 + 12 * b + 4) v) h2 := by
  have hn := zn_le hI
  have hz := hI.1
  have hzn := zn_eq hI
  exact zInv_ext hI hle (zup_ne _ _ (by omega)) (zup_ne _ _ (by omega)) (zup_ne _ _ (by omega)) (zup_ne _ _ (by omega)) ⟨by rw [zup_ne _ _ (by omega)]; omega, by rw [zup_ne _ _ (by omega)]; omega⟩
    (fun b2 hb2 => ⟨zup_ne _ _ (by omega), zup_ne _ _ (by omega), zup_ne _ _ (by omega)⟩)
    (fun b2 hb2 => by
    have q := (hI.2.1 b2 hb2).2.1
    rw [show zB (zup S (6 + 12 * b + 4) v) b2 3 = zB S b2 3 from zup_ne _ _ (by omega)]
    omega)
    (fun b2 hb2 => by
    have q := (hI.2.1 b2 hb2).2.2
    rw [show zB (zup S (6 + 12 * b + 4) v) b2 5 = zB S b2 5 from zup_ne _ _ (by omega), zat_up b2 (by omega) (fun u hu => by omega)]
    exact q)
    (fun b2 hb2 => by
    by_cases w : b2 = b
    · subst w
      have q := hI.2.2.1 b2 hb2
      unfold zIc at q
      rw [show zB (zup S (6 + 12 * b2 + 4) v) b2 4 = v from zup_eq _ _ _, show zB (zup S (6 + 12 * b2 + 4) v) b2 6 = zB S b2 6 from zup_ne _ _ (by omega)]
      exact Or.inr ⟨hb, by omega⟩
    · exact Or.inl ⟨zup_ne _ _ (by omega), zup_ne _ _ (by omega)⟩)
    (fun b2 g2 hb2 hg2 => Or.inl (zup_ne _ _ (by omega)))
    (fun u hu => by
    have q := hI.2.2.2.1 u hu
    unfold zIt at q
    rw [show zT (zup S (6 + 12 * b + 4) v) u 0 = zT S u 0 from zup_ne _ _ (by omega), show zT (zup S (6 + 12 * b + 4) v) u 1 = zT S u 1 from zup_ne _ _ (by omega), show zT (zup S (6 + 12 * b + 4) v) u 2 = zT S u 2 from zup_ne _ _ (by omega), show zT (zup S (6 + 12 * b + 4) v) u 3 = zT S u 3 from zup_ne _ _ (by omega)]
    omega)
    (fun u hu => by
    rw [show zT (zup S (6 + 12 * b + 4) v) u 0 = zT S u 0 from zup_ne _ _ (by omega)]
    exact hI.2.2.2.2.2.1 u hu)
    (fun u w hu hw => by
    rw [show zT (zup S (6 + 12 * b + 4) v) u 0 = zT S u 0 from zup_ne _ _ (by omega), show zT (zup S (6 + 12 * b + 4) v) w 0 = zT S w 0 from zup_ne _ _ (by omega)]
    exact hI.2.2.2.2.2.2.1 u w hu hw)
    (fun g2 hg2 => zIg_ext hle (zup_ne _ _ (by omega)) (fun k hk => zup_ne _ _ (by omega)) (fun b2 hb2 => zup_ne _ _ (by omega)) (hI.2.2.2.2.1 g2 hg2))
    (by
    rw [zup_ne _ _ (by omega), hI.2.2.2.2.2.2.2]
    exact zs_ext (fun g2 hg2 => (show zG (zup S (6 + 12 * b + 4) v) g2 4 = zG S g2 4 from zup_ne _ _ (by omega)).symm))

theorem zV_crossed {S : zR} {h h2 : Nat} (hI : zInv S h) (hle : h ≤ h2) {b : Nat} (hb : b < zn S 0) {v : Int} (hv : 0 ≤ v ∧ v ≤ h2) : zInv (zup S (6 + 12 * b + 6) v) h2 := by
  have hn := zn_le hI
  have hz := hI.1
  have hzn := zn_eq hI
  exact zInv_ext hI hle (zup_ne _ _ (by omega)) (zup_ne _ _ (by omega)) (zup_ne _ _ (by omega)) (zup_ne _ _ (by omega)) ⟨by rw [zup_ne _ _ (by omega)]; omega, by rw [zup_ne _ _ (by omega)]; omega⟩
    (fun b2 hb2 => ⟨zup_ne _ _ (by omega), zup_ne _ _ (by omega), zup_ne _ _ (by omega)⟩)
    (fun b2 hb2 => by
    have q := (hI.2.1 b2 hb2).2.1
    rw [show zB (zup S (6 + 12 * b + 6) v) b2 3 = zB S b2 3 from zup_ne _ _ (by omega)]
    omega)
    (fun b2 hb2 => by
    have q := (hI.2.1 b2 hb2).2.2
    rw [show zB (zup S (6 + 12 * b + 6) v) b2 5 = zB S b2 5 from zup_ne _ _ (by omega), zat_up b2 (by omega) (fun u hu => by omega)]
    exact q)
    (fun b2 hb2 => by
    by_cases w : b2 = b
    · subst w
      have q := hI.2.2.1 b2 hb2
      unfold zIc at q
      rw [show zB (zup S (6 + 12 * b2 + 6) v) b2 6 = v from zup_eq _ _ _, show zB (zup S (6 + 12 * b2 + 6) v) b2 4 = zB S b2 4 from zup_ne _ _ (by omega)]
      exact Or.inr ⟨hb, by omega⟩
    · exact Or.inl ⟨zup_ne _ _ (by omega), zup_ne _ _ (by omega)⟩)
    (fun b2 g2 hb2 hg2 => Or.inl (zup_ne _ _ (by omega)))
    (fun u hu => by
    have q := hI.2.2.2.1 u hu
    unfold zIt at q
    rw [show zT (zup S (6 + 12 * b + 6) v) u 0 = zT S u 0 from zup_ne _ _ (by omega), show zT (zup S (6 + 12 * b + 6) v) u 1 = zT S u 1 from zup_ne _ _ (by omega), show zT (zup S (6 + 12 * b + 6) v) u 2 = zT S u 2 from zup_ne _ _ (by omega), show zT (zup S (6 + 12 * b + 6) v) u 3 = zT S u 3 from zup_ne _ _ (by omega)]
    omega)
    (fun u hu => by
    rw [show zT (zup S (6 + 12 * b + 6) v) u 0 = zT S u 0 from zup_ne _ _ (by omega)]
    exact hI.2.2.2.2.2.1 u hu)
    (fun u w hu hw => by
    rw [show zT (zup S (6 + 12 * b + 6) v) u 0 = zT S u 0 from zup_ne _ _ (by omega), show zT (zup S (6 + 12 * b + 6) v) w 0 = zT S w 0 from zup_ne _ _ (by omega)]
    exact hI.2.2.2.2.2.2.1 u w hu hw)
    (fun g2 hg2 => zIg_ext hle (zup_ne _ _ (by omega)) (fun k hk => zup_ne _ _ (by omega)) (fun b2 hb2 => zup_ne _ _ (by omega)) (hI.2.2.2.2.1 g2 hg2))
    (by
    rw [zup_ne _ _ (by omega), hI.2.2.2.2.2.2.2]
    exact zs_ext (fun g2 hg2 => (show zG (zup S (6 + 12 * b + 6) v) g2 4 = zG S g2 4 from zup_ne _ _ (by omega)).symm))

theorem zV_disp {S : zR} {h h2 : Nat} (hI : zInv S h) (hle : h ≤ h2) {b : Nat} (hb : b < zn S 0) {v : Int} (hv : -1 ≤ v ∧ v < S 2 ∧ (0 ≤ v → 0 ≤ zat S b)) : zInv (zup S (6 + 12 * b + 5) v) h2 := by
  have hn := zn_le hI
  have hz := hI.1
  have hzn := zn_eq hI
  exact zInv_ext hI hle (zup_ne _ _ (by omega)) (zup_ne _ _ (by omega)) (zup_ne _ _ (by omega)) (zup_ne _ _ (by omega)) ⟨by rw [zup_ne _ _ (by omega)]; omega, by rw [zup_ne _ _ (by omega)]; omega⟩
    (fun b2 hb2 => ⟨zup_ne _ _ (by omega), zup_ne _ _ (by omega), zup_ne _ _ (by omega)⟩)
    (fun b2 hb2 => by
    have q := (hI.2.1 b2 hb2).2.1
    rw [show zB (zup S (6 + 12 * b + 5) v) b2 3 = zB S b2 3 from zup_ne _ _ (by omega)]
    omega)
    (fun b2 hb2 => by
    have q := (hI.2.1 b2 hb2).2.2
    rw [zat_up b2 (by omega) (fun u hu => by omega)]
    by_cases w : b2 = b
    · subst w
      rw [show zB (zup S (6 + 12 * b2 + 5) v) b2 5 = v from zup_eq _ _ _]
      exact hv
    · rw [show zB (zup S (6 + 12 * b + 5) v) b2 5 = zB S b2 5 from zup_ne _ _ (by omega)]
      exact q)
    (fun b2 hb2 => Or.inl ⟨zup_ne _ _ (by omega), zup_ne _ _ (by omega)⟩)
    (fun b2 g2 hb2 hg2 => Or.inl (zup_ne _ _ (by omega)))
    (fun u hu => by
    have q := hI.2.2.2.1 u hu
    unfold zIt at q
    rw [show zT (zup S (6 + 12 * b + 5) v) u 0 = zT S u 0 from zup_ne _ _ (by omega), show zT (zup S (6 + 12 * b + 5) v) u 1 = zT S u 1 from zup_ne _ _ (by omega), show zT (zup S (6 + 12 * b + 5) v) u 2 = zT S u 2 from zup_ne _ _ (by omega), show zT (zup S (6 + 12 * b + 5) v) u 3 = zT S u 3 from zup_ne _ _ (by omega)]
    omega)
    (fun u hu => by
    rw [show zT (zup S (6 + 12 * b + 5) v) u 0 = zT S u 0 from zup_ne _ _ (by omega)]
    exact hI.2.2.2.2.2.1 u hu)
    (fun u w hu hw => by
    rw [show zT (zup S (6 + 12 * b + 5) v) u 0 = zT S u 0 from zup_ne _ _ (by omega), show zT (zup S (6 + 12 * b + 5) v) w 0 = zT S w 0 from zup_ne _ _ (by omega)]
    exact hI.2.2.2.2.2.2.1 u w hu hw)
    (fun g2 hg2 => zIg_ext hle (zup_ne _ _ (by omega)) (fun k hk => zup_ne _ _ (by omega)) (fun b2 hb2 => zup_ne _ _ (by omega)) (hI.2.2.2.2.1 g2 hg2))
    (by
    rw [zup_ne _ _ (by omega), hI.2.2.2.2.2.2.2]
    exact zs_ext (fun g2 hg2 => (show zG (zup S (6 + 12 * b + 5) v) g2 4 = zG S g2 4 from zup_ne _ _ (by omega)).symm))

theorem zV_coins {S : zR} {h h2 : Nat} (hI : zInv S h) (hle : h ≤ h2) {t : Nat} (ht : t < 6) {v : Int} (hv : 0 ≤ v ∧ v ≤ 495 * h2) : zInv (zup S (126 + 4 * t + 1) v) h2 := by
  have hn := zn_le hI
  have hz := hI.1
  have hzn := zn_eq hI
  exact zInv_ext hI hle (zup_ne _ _ (by omega)) (zup_ne _ _ (by omega)) (zup_ne _ _ (by omega)) (zup_ne _ _ (by omega)) ⟨by rw [zup_ne _ _ (by omega)]; omega, by rw [zup_ne _ _ (by omega)]; omega⟩
    (fun b2 hb2 => ⟨zup_ne _ _ (by omega), zup_ne _ _ (by omega), zup_ne _ _ (by omega)⟩)
    (fun b2 hb2 => by
    have q := (hI.2.1 b2 hb2).2.1
    rw [show zB (zup S (126 + 4 * t + 1) v) b2 3 = zB S b2 3 from zup_ne _ _ (by omega)]
    omega)
    (fun b2 hb2 => by
    have q := (hI.2.1 b2 hb2).2.2
    rw [show zB (zup S (126 + 4 * t + 1) v) b2 5 = zB S b2 5 from zup_ne _ _ (by omega), zat_up b2 (by omega) (fun u hu => by omega)]
    exact q)
    (fun b2 hb2 => Or.inl ⟨zup_ne _ _ (by omega), zup_ne _ _ (by omega)⟩)
    (fun b2 g2 hb2 hg2 => Or.inl (zup_ne _ _ (by omega)))
    (fun u hu => by
    have q := hI.2.2.2.1 u hu
    unfold zIt at q
    by_cases w : u = t
    · subst w
      rw [show zT (zup S (126 + 4 * u + 1) v) u 0 = zT S u 0 from zup_ne _ _ (by omega), show zT (zup S (126 + 4 * u + 1) v) u 1 = v from zup_eq _ _ _, show zT (zup S (126 + 4 * u + 1) v) u 2 = zT S u 2 from zup_ne _ _ (by omega), show zT (zup S (126 + 4 * u + 1) v) u 3 = zT S u 3 from zup_ne _ _ (by omega)]
      omega
    · rw [show zT (zup S (126 + 4 * t + 1) v) u 0 = zT S u 0 from zup_ne _ _ (by omega), show zT (zup S (126 + 4 * t + 1) v) u 1 = zT S u 1 from zup_ne _ _ (by omega), show zT (zup S (126 + 4 * t + 1) v) u 2 = zT S u 2 from zup_ne _ _ (by omega), show zT (zup S (126 + 4 * t + 1) v) u 3 = zT S u 3 from zup_ne _ _ (by omega)]
      omega)
    (fun u hu => by
    rw [show zT (zup S (126 + 4 * t + 1) v) u 0 = zT S u 0 from zup_ne _ _ (by omega)]
    exact hI.2.2.2.2.2.1 u hu)
    (fun u w hu hw => by
    rw [show zT (zup S (126 + 4 * t + 1) v) u 0 = zT S u 0 from zup_ne _ _ (by omega), show zT (zup S (126 + 4 * t + 1) v) w 0 = zT S w 0 from zup_ne _ _ (by omega)]
    exact hI.2.2.2.2.2.2.1 u w hu hw)
    (fun g2 hg2 => zIg_ext hle (zup_ne _ _ (by omega)) (fun k hk => zup_ne _ _ (by omega)) (fun b2 hb2 => zup_ne _ _ (by omega)) (hI.2.2.2.2.1 g2 hg2))
    (by
    rw [zup_ne _ _ (by omega), hI.2.2.2.2.2.2.2]
    exact zs_ext (fun g2 hg2 => (show zG (zup S (126 + 4 * t + 1) v) g2 4 = zG S g2 4 from zup_ne _ _ (by omega)).symm))

theorem zV_diff {S : zR} {h h2 : Nat} (hI : zInv S h) (hle : h ≤ h2) {t : Nat} (ht : t < 6) {v : Int} (hv : 1 ≤ v ∧ v ≤ 9) : zInv (zup S (126 + 4 * t + 2) v) h2 := by
  have hn := zn_le hI
  have hz := hI.1
  have hzn := zn_eq hI
  exact zInv_ext hI hle (zup_ne _ _ (by omega)) (zup_ne _ _ (by omega)) (zup_ne _ _ (by omega)) (zup_ne _ _ (by omega)) ⟨by rw [zup_ne _ _ (by omega)]; omega, by rw [zup_ne _ _ (by omega)]; omega⟩
    (fun b2 hb2 => ⟨zup_ne _ _ (by omega), zup_ne _ _ (by omega), zup_ne _ _ (by omega)⟩)
    (fun b2 hb2 => by
    have q := (hI.2.1 b2 hb2).2.1
    rw [show zB (zup S (126 + 4 * t + 2) v) b2 3 = zB S b2 3 from zup_ne _ _ (by omega)]
    omega)
    (fun b2 hb2 => by
    have q := (hI.2.1 b2 hb2).2.2
    rw [show zB (zup S (126 + 4 * t + 2) v) b2 5 = zB S b2 5 from zup_ne _ _ (by omega), zat_up b2 (by omega) (fun u hu => by omega)]
    exact q)
    (fun b2 hb2 => Or.inl ⟨zup_ne _ _ (by omega), zup_ne _ _ (by omega)⟩)
    (fun b2 g2 hb2 hg2 => Or.inl (zup_ne _ _ (by omega)))
    (fun u hu => by
    have q := hI.2.2.2.1 u hu
    unfold zIt at q
    by_cases w : u = t
    · subst w
      rw [show zT (zup S (126 + 4 * u + 2) v) u 0 = zT S u 0 from zup_ne _ _ (by omega), show zT (zup S (126 + 4 * u + 2) v) u 1 = zT S u 1 from zup_ne _ _ (by omega), show zT (zup S (126 + 4 * u + 2) v) u 2 = v from zup_eq _ _ _, show zT (zup S (126 + 4 * u + 2) v) u 3 = zT S u 3 from zup_ne _ _ (by omega)]
      omega
    · rw [show zT (zup S (126 + 4 * t + 2) v) u 0 = zT S u 0 from zup_ne _ _ (by omega), show zT (zup S (126 + 4 * t + 2) v) u 1 = zT S u 1 from zup_ne _ _ (by omega), show zT (zup S (126 + 4 * t + 2) v) u 2 = zT S u 2 from zup_ne _ _ (by omega), show zT (zup S (126 + 4 * t + 2) v) u 3 = zT S u 3 from zup_ne _ _ (by omega)]
      omega)
    (fun u hu => by
    rw [show zT (zup S (126 + 4 * t + 2) v) u 0 = zT S u 0 from zup_ne _ _ (by omega)]
    exact hI.2.2.2.2.2.1 u hu)
    (fun u w hu hw => by
    rw [show zT (zup S (126 + 4 * t + 2) v) u 0 = zT S u 0 from zup_ne _ _ (by omega), show zT (zup S (126 + 4 * t + 2) v) w 0 = zT S w 0 from zup_ne _ _ (by omega)]
    exact hI.2.2.2.2.2.2.1 u w hu hw)
    (fun g2 hg2 => zIg_ext hle (zup_ne _ _ (by omega)) (fun k hk => zup_ne _ _ (by omega)) (fun b2 hb2 => zup_ne _ _ (by omega)) (hI.2.2.2.2.1 g2 hg2))
    (by
    rw [zup_ne _ _ (by omega), hI.2.2.2.2.2.2.2]
    exact zs_ext (fun g2 hg2 => (show zG (zup S (126 + 4 * t + 2) v) g2 4 = zG S g2 4 from zup_ne _ _ (by omega)).symm))

theorem zV_until {S : zR} {h h2 : Nat} (hI : zInv S h) (hle : h ≤ h2) {t : Nat} (ht : t < 6) {v : Int} (hv : 0 ≤ v ∧ v ≤ 48 * h2 + 48 ∧ 1 ≤ zT S t 2) : zInv (zup S (126 + 4 * t + 3) v) h2 := by
  have hn := zn_le hI
  have hz := hI.1
  have hzn := zn_eq hI
  exact zInv_ext hI hle (zup_ne _ _ (by omega)) (zup_ne _ _ (by omega)) (zup_ne _ _ (by omega)) (zup_ne _ _ (by omega)) ⟨by rw [zup_ne _ _ (by omega)]; omega, by rw [zup_ne _ _ (by omega)]; omega⟩
    (fun b2 hb2 => ⟨zup_ne _ _ (by omega), zup_ne _ _ (by omega), zup_ne _ _ (by omega)⟩)
    (fun b2 hb2 => by
    have q := (hI.2.1 b2 hb2).2.1
    rw [show zB (zup S (126 + 4 * t + 3) v) b2 3 = zB S b2 3 from zup_ne _ _ (by omega)]
    omega)
    (fun b2 hb2 => by
    have q := (hI.2.1 b2 hb2).2.2
    rw [show zB (zup S (126 + 4 * t + 3) v) b2 5 = zB S b2 5 from zup_ne _ _ (by omega), zat_up b2 (by omega) (fun u hu => by omega)]
    exact q)
    (fun b2 hb2 => Or.inl ⟨zup_ne _ _ (by omega), zup_ne _ _ (by omega)⟩)
    (fun b2 g2 hb2 hg2 => Or.inl (zup_ne _ _ (by omega)))
    (fun u hu => by
    have q := hI.2.2.2.1 u hu
    unfold zIt at q
    by_cases w : u = t
    · subst w
      rw [show zT (zup S (126 + 4 * u + 3) v) u 0 = zT S u 0 from zup_ne _ _ (by omega), show zT (zup S (126 + 4 * u + 3) v) u 1 = zT S u 1 from zup_ne _ _ (by omega), show zT (zup S (126 + 4 * u + 3) v) u 2 = zT S u 2 from zup_ne _ _ (by omega), show zT (zup S (126 + 4 * u + 3) v) u 3 = v from zup_eq _ _ _]
      omega
    · rw [show zT (zup S (126 + 4 * t + 3) v) u 0 = zT S u 0 from zup_ne _ _ (by omega), show zT (zup S (126 + 4 * t + 3) v) u 1 = zT S u 1 from zup_ne _ _ (by omega), show zT (zup S (126 + 4 * t + 3) v) u 2 = zT S u 2 from zup_ne _ _ (by omega), show zT (zup S (126 + 4 * t + 3) v) u 3 = zT S u 3 from zup_ne _ _ (by omega)]
      omega)
    (fun u hu => by
    rw [show zT (zup S (126 + 4 * t + 3) v) u 0 = zT S u 0 from zup_ne _ _ (by omega)]
    exact hI.2.2.2.2.2.1 u hu)
    (fun u w hu hw => by
    rw [show zT (zup S (126 + 4 * t + 3) v) u 0 = zT S u 0 from zup_ne _ _ (by omega), show zT (zup S (126 + 4 * t + 3) v) w 0 = zT S w 0 from zup_ne _ _ (by omega)]
    exact hI.2.2.2.2.2.2.1 u w hu hw)
    (fun g2 hg2 => zIg_ext hle (zup_ne _ _ (by omega)) (fun k hk => zup_ne _ _ (by omega)) (fun b2 hb2 => zup_ne _ _ (by omega)) (hI.2.2.2.2.1 g2 hg2))
    (by
    rw [zup_ne _ _ (by omega), hI.2.2.2.2.2.2.2]
    exact zs_ext (fun g2 hg2 => (show zG (zup S (126 + 4 * t + 3) v) g2 4 = zG S g2 4 from zup_ne _ _ (by omega)).symm))

theorem zV_post {S : zR} {h h2 : Nat} (hI : zInv S h) (hle : h ≤ h2) {t : Nat} (ht : t < zn S 1) {v : Int} (hv : -1 ≤ v ∧ v < S 0) (hd : v = -1 ∨ ¬ 0 ≤ zat S v.toNat) (hq : zT S t 0 = -1 ∨ ¬ 0 ≤ zB S (zT S t 0).toNat 5) : zInv (zup S (126 + 4 * t + 0) v) h2 := by
  have hn := zn_le hI
  have hz := hI.1
  have hzn := zn_eq hI
  exact zInv_ext hI hle (zup_ne _ _ (by omega)) (zup_ne _ _ (by omega)) (zup_ne _ _ (by omega)) (zup_ne _ _ (by omega)) ⟨by rw [zup_ne _ _ (by omega)]; omega, by rw [zup_ne _ _ (by omega)]; omega⟩
    (fun b2 hb2 => ⟨zup_ne _ _ (by omega), zup_ne _ _ (by omega), zup_ne _ _ (by omega)⟩)
    (fun b2 hb2 => by
    have q := (hI.2.1 b2 hb2).2.1
    rw [show zB (zup S (126 + 4 * t + 0) v) b2 3 = zB S b2 3 from zup_ne _ _ (by omega)]
    omega)
    (fun b2 hb2 => by
    have q := (hI.2.1 b2 hb2).2.2
    rw [show zB (zup S (126 + 4 * t + 0) v) b2 5 = zB S b2 5 from zup_ne _ _ (by omega)]
    refine ⟨q.1, q.2.1, fun w => ?_⟩
    have q3 := q.2.2 w
    by_cases w2 : v = b2
    · rw [zat_set_eq ht w2 (fun u hu hne => by
        rcases hd with hd | hd
        · omega
        · rw [show v.toNat = b2 from by omega] at hd
          exact absurd q3 hd)]
      omega
    · by_cases w3 : zT S t 0 = b2
      · exfalso
        rcases hq with hq | hq
        · omega
        · rw [show (zT S t 0).toNat = b2 from by omega] at hq
          exact hq w
      · rw [zat_set_ne w2 w3]; exact q3)
    (fun b2 hb2 => Or.inl ⟨zup_ne _ _ (by omega), zup_ne _ _ (by omega)⟩)
    (fun b2 g2 hb2 hg2 => Or.inl (zup_ne _ _ (by omega)))
    (fun u hu => by
    have q := hI.2.2.2.1 u hu
    unfold zIt at q
    by_cases w : u = t
    · subst w
      rw [show zT (zup S (126 + 4 * u + 0) v) u 0 = v from zup_eq _ _ _, show zT (zup S (126 + 4 * u + 0) v) u 1 = zT S u 1 from zup_ne _ _ (by omega), show zT (zup S (126 + 4 * u + 0) v) u 2 = zT S u 2 from zup_ne _ _ (by omega), show zT (zup S (126 + 4 * u + 0) v) u 3 = zT S u 3 from zup_ne _ _ (by omega)]
      omega
    · rw [show zT (zup S (126 + 4 * t + 0) v) u 0 = zT S u 0 from zup_ne _ _ (by omega), show zT (zup S (126 + 4 * t + 0) v) u 1 = zT S u 1 from zup_ne _ _ (by omega), show zT (zup S (126 + 4 * t + 0) v) u 2 = zT S u 2 from zup_ne _ _ (by omega), show zT (zup S (126 + 4 * t + 0) v) u 3 = zT S u 3 from zup_ne _ _ (by omega)]
      omega)
    (fun u hu => by
    by_cases w : u = t
    · subst w
      rw [show zT (zup S (126 + 4 * u + 0) v) u 0 = v from zup_eq _ _ _]
      exact hv.2
    · rw [show zT (zup S (126 + 4 * t + 0) v) u 0 = zT S u 0 from zup_ne _ _ (by omega)]
      exact hI.2.2.2.2.2.1 u hu)
    (fun u w hu hw => by
    have key : ∀ x, x < zn S 1 → x ≠ t → v = zT S x 0 → v = -1 := fun x hx hne q => by
      rcases hd with hd | hd
      · exact hd
      · by_cases q2 : v = -1
        · exact q2
        · exact absurd (zat_none hd x hx) (by
            intro q3
            exact q3 (by omega))
    by_cases w1 : u = t
    · by_cases w2 : w = t
      · intro _; exact Or.inr (by omega)
      · subst w1
        rw [show zT (zup S (126 + 4 * u + 0) v) u 0 = v from zup_eq _ _ _, show zT (zup S (126 + 4 * u + 0) v) w 0 = zT S w 0 from zup_ne _ _ (by omega)]
        intro q; exact Or.inl (key w hw w2 q)
    · by_cases w2 : w = t
      · subst w2
        rw [show zT (zup S (126 + 4 * w + 0) v) w 0 = v from zup_eq _ _ _, show zT (zup S (126 + 4 * w + 0) v) u 0 = zT S u 0 from zup_ne _ _ (by omega)]
        intro q; have := key u hu w1 q.symm; exact Or.inl (by omega)
      · rw [show zT (zup S (126 + 4 * t + 0) v) u 0 = zT S u 0 from zup_ne _ _ (by omega), show zT (zup S (126 + 4 * t + 0) v) w 0 = zT S w 0 from zup_ne _ _ (by omega)]
        exact hI.2.2.2.2.2.2.1 u w hu hw)
    (fun g2 hg2 => zIg_ext hle (zup_ne _ _ (by omega)) (fun k hk => zup_ne _ _ (by omega)) (fun b2 hb2 => zup_ne _ _ (by omega)) (hI.2.2.2.2.1 g2 hg2))
    (by
    rw [zup_ne _ _ (by omega), hI.2.2.2.2.2.2.2]
    exact zs_ext (fun g2 hg2 => (show zG (zup S (126 + 4 * t + 0) v) g2 4 = zG S g2 4 from zup_ne _ _ (by omega)).symm))

theorem zV_land {S : zR} {h h2 : Nat} (hI : zInv S h) (hle : h ≤ h2) {g : Nat} (hg : g < zn S 2) {v : Int} (hv : 0 ≤ v ∧ v ≤ 5) : zInv (zup S (150 + 5 * g + 0) v) h2 := by
  have hn := zn_le hI
  have hz := hI.1
  have hzn := zn_eq hI
  exact zInv_ext hI hle (zup_ne _ _ (by omega)) (zup_ne _ _ (by omega)) (zup_ne _ _ (by omega)) (zup_ne _ _ (by omega)) ⟨by rw [zup_ne _ _ (by omega)]; omega, by rw [zup_ne _ _ (by omega)]; omega⟩
    (fun b2 hb2 => ⟨zup_ne _ _ (by omega), zup_ne _ _ (by omega), zup_ne _ _ (by omega)⟩)
    (fun b2 hb2 => by
    have q := (hI.2.1 b2 hb2).2.1
    rw [show zB (zup S (150 + 5 * g + 0) v) b2 3 = zB S b2 3 from zup_ne _ _ (by omega)]
    omega)
    (fun b2 hb2 => by
    have q := (hI.2.1 b2 hb2).2.2
    rw [show zB (zup S (150 + 5 * g + 0) v) b2 5 = zB S b2 5 from zup_ne _ _ (by omega), zat_up b2 (by omega) (fun u hu => by omega)]
    exact q)
    (fun b2 hb2 => Or.inl ⟨zup_ne _ _ (by omega), zup_ne _ _ (by omega)⟩)
    (fun b2 g2 hb2 hg2 => Or.inl (zup_ne _ _ (by omega)))
    (fun u hu => by
    have q := hI.2.2.2.1 u hu
    unfold zIt at q
    rw [show zT (zup S (150 + 5 * g + 0) v) u 0 = zT S u 0 from zup_ne _ _ (by omega), show zT (zup S (150 + 5 * g + 0) v) u 1 = zT S u 1 from zup_ne _ _ (by omega), show zT (zup S (150 + 5 * g + 0) v) u 2 = zT S u 2 from zup_ne _ _ (by omega), show zT (zup S (150 + 5 * g + 0) v) u 3 = zT S u 3 from zup_ne _ _ (by omega)]
    omega)
    (fun u hu => by
    rw [show zT (zup S (150 + 5 * g + 0) v) u 0 = zT S u 0 from zup_ne _ _ (by omega)]
    exact hI.2.2.2.2.2.1 u hu)
    (fun u w hu hw => by
    rw [show zT (zup S (150 + 5 * g + 0) v) u 0 = zT S u 0 from zup_ne _ _ (by omega), show zT (zup S (150 + 5 * g + 0) v) w 0 = zT S w 0 from zup_ne _ _ (by omega)]
    exact hI.2.2.2.2.2.2.1 u w hu hw)
    (fun g2 hg2 => by
    by_cases w : g2 = g
    · subst w
      have q := hI.2.2.2.2.1 g2 hg2
      unfold zIg at q ⊢
      rw [show zG (zup S (150 + 5 * g2 + 0) v) g2 0 = v from zup_eq _ _ _, show zG (zup S (150 + 5 * g2 + 0) v) g2 1 = zG S g2 1 from zup_ne _ _ (by omega), show zG (zup S (150 + 5 * g2 + 0) v) g2 2 = zG S g2 2 from zup_ne _ _ (by omega), show zG (zup S (150 + 5 * g2 + 0) v) g2 3 = zG S g2 3 from zup_ne _ _ (by omega), show zG (zup S (150 + 5 * g2 + 0) v) g2 4 = zG S g2 4 from zup_ne _ _ (by omega), show zn (zup S (150 + 5 * g2 + 0) v) 2 = zn S 2 from by unfold zn; rw [zup_ne _ _ (by omega)], show zs 10 (fun b => zB (zup S (150 + 5 * g2 + 0) v) b (7 + g2)) = zs 10 (fun b => zB S b (7 + g2)) from zs_ext (fun b2 hb2 => zup_ne _ _ (by omega))]
      refine ⟨by omega, by omega, by omega, by omega, by omega, by omega, by omega, by omega, by omega, by omega, fun w2 => absurd w2 (by omega)⟩
    · exact zIg_ext hle (zup_ne _ _ (by omega)) (fun k hk => zup_ne _ _ (by omega)) (fun b2 hb2 => zup_ne _ _ (by omega)) (hI.2.2.2.2.1 g2 hg2))
    (by
    rw [zup_ne _ _ (by omega), hI.2.2.2.2.2.2.2]
    exact zs_ext (fun g2 hg2 => (show zG (zup S (150 + 5 * g + 0) v) g2 4 = zG S g2 4 from zup_ne _ _ (by omega)).symm))

theorem zV_purse {S : zR} {h h2 : Nat} (hI : zInv S h) (hle : h ≤ h2) {g : Nat} (hg : g < zn S 2) {v : Int} (hv : 0 ≤ v ∧ v + zs 10 (fun b => zB S b (7 + g)) ≤ 99) : zInv (zup S (150 + 5 * g + 1) v) h2 := by
  have hn := zn_le hI
  have hz := hI.1
  have hzn := zn_eq hI
  exact zInv_ext hI hle (zup_ne _ _ (by omega)) (zup_ne _ _ (by omega)) (zup_ne _ _ (by omega)) (zup_ne _ _ (by omega)) ⟨by rw [zup_ne _ _ (by omega)]; omega, by rw [zup_ne _ _ (by omega)]; omega⟩
    (fun b2 hb2 => ⟨zup_ne _ _ (by omega), zup_ne _ _ (by omega), zup_ne _ _ (by omega)⟩)
    (fun b2 hb2 => by
    have q := (hI.2.1 b2 hb2).2.1
    rw [show zB (zup S (150 + 5 * g + 1) v) b2 3 = zB S b2 3 from zup_ne _ _ (by omega)]
    omega)
    (fun b2 hb2 => by
    have q := (hI.2.1 b2 hb2).2.2
    rw [show zB (zup S (150 + 5 * g + 1) v) b2 5 = zB S b2 5 from zup_ne _ _ (by omega), zat_up b2 (by omega) (fun u hu => by omega)]
    exact q)
    (fun b2 hb2 => Or.inl ⟨zup_ne _ _ (by omega), zup_ne _ _ (by omega)⟩)
    (fun b2 g2 hb2 hg2 => Or.inl (zup_ne _ _ (by omega)))
    (fun u hu => by
    have q := hI.2.2.2.1 u hu
    unfold zIt at q
    rw [show zT (zup S (150 + 5 * g + 1) v) u 0 = zT S u 0 from zup_ne _ _ (by omega), show zT (zup S (150 + 5 * g + 1) v) u 1 = zT S u 1 from zup_ne _ _ (by omega), show zT (zup S (150 + 5 * g + 1) v) u 2 = zT S u 2 from zup_ne _ _ (by omega), show zT (zup S (150 + 5 * g + 1) v) u 3 = zT S u 3 from zup_ne _ _ (by omega)]
    omega)
    (fun u hu => by
    rw [show zT (zup S (150 + 5 * g + 1) v) u 0 = zT S u 0 from zup_ne _ _ (by omega)]
    exact hI.2.2.2.2.2.1 u hu)
    (fun u w hu hw => by
    rw [show zT (zup S (150 + 5 * g + 1) v) u 0 = zT S u 0 from zup_ne _ _ (by omega), show zT (zup S (150 + 5 * g + 1) v) w 0 = zT S w 0 from zup_ne _ _ (by omega)]
    exact hI.2.2.2.2.2.2.1 u w hu hw)
    (fun g2 hg2 => by
    by_cases w : g2 = g
    · subst w
      have q := hI.2.2.2.2.1 g2 hg2
      unfold zIg at q ⊢
      rw [show zG (zup S (150 + 5 * g2 + 1) v) g2 0 = zG S g2 0 from zup_ne _ _ (by omega), show zG (zup S (150 + 5 * g2 + 1) v) g2 1 = v from zup_eq _ _ _, show zG (zup S (150 + 5 * g2 + 1) v) g2 2 = zG S g2 2 from zup_ne _ _ (by omega), show zG (zup S (150 + 5 * g2 + 1) v) g2 3 = zG S g2 3 from zup_ne _ _ (by omega), show zG (zup S (150 + 5 * g2 + 1) v) g2 4 = zG S g2 4 from zup_ne _ _ (by omega), show zn (zup S (150 + 5 * g2 + 1) v) 2 = zn S 2 from by unfold zn; rw [zup_ne _ _ (by omega)], show zs 10 (fun b => zB (zup S (150 + 5 * g2 + 1) v) b (7 + g2)) = zs 10 (fun b => zB S b (7 + g2)) from zs_ext (fun b2 hb2 => zup_ne _ _ (by omega))]
      refine ⟨by omega, by omega, by omega, by omega, by omega, by omega, by omega, by omega, by omega, by omega, fun w2 => absurd w2 (by omega)⟩
    · exact zIg_ext hle (zup_ne _ _ (by omega)) (fun k hk => zup_ne _ _ (by omega)) (fun b2 hb2 => zup_ne _ _ (by omega)) (hI.2.2.2.2.1 g2 hg2))
    (by
    rw [zup_ne _ _ (by omega), hI.2.2.2.2.2.2.2]
    exact zs_ext (fun g2 hg2 => (show zG (zup S (150 + 5 * g + 1) v) g2 4 = zG S g2 4 from zup_ne _ _ (by omega)).symm))

theorem zV_strike {S : zR} {h h2 : Nat} (hI : zInv S h) (hle : h ≤ h2) {g : Nat} (hg : g < zn S 2) {v : Int} (hv : 0 ≤ v ∧ v ≤ 1) : zInv (zup S (150 + 5 * g + 2) v) h2 := by
  have hn := zn_le hI
  have hz := hI.1
  have hzn := zn_eq hI
  exact zInv_ext hI hle (zup_ne _ _ (by omega)) (zup_ne _ _ (by omega)) (zup_ne _ _ (by omega)) (zup_ne _ _ (by omega)) ⟨by rw [zup_ne _ _ (by omega)]; omega, by rw [zup_ne _ _ (by omega)]; omega⟩
    (fun b2 hb2 => ⟨zup_ne _ _ (by omega), zup_ne _ _ (by omega), zup_ne _ _ (by omega)⟩)
    (fun b2 hb2 => by
    have q := (hI.2.1 b2 hb2).2.1
    rw [show zB (zup S (150 + 5 * g + 2) v) b2 3 = zB S b2 3 from zup_ne _ _ (by omega)]
    omega)
    (fun b2 hb2 => by
    have q := (hI.2.1 b2 hb2).2.2
    rw [show zB (zup S (150 + 5 * g + 2) v) b2 5 = zB S b2 5 from zup_ne _ _ (by omega), zat_up b2 (by omega) (fun u hu => by omega)]
    exact q)
    (fun b2 hb2 => Or.inl ⟨zup_ne _ _ (by omega), zup_ne _ _ (by omega)⟩)
    (fun b2 g2 hb2 hg2 => Or.inl (zup_ne _ _ (by omega)))
    (fun u hu => by
    have q := hI.2.2.2.1 u hu
    unfold zIt at q
    rw [show zT (zup S (150 + 5 * g + 2) v) u 0 = zT S u 0 from zup_ne _ _ (by omega), show zT (zup S (150 + 5 * g + 2) v) u 1 = zT S u 1 from zup_ne _ _ (by omega), show zT (zup S (150 + 5 * g + 2) v) u 2 = zT S u 2 from zup_ne _ _ (by omega), show zT (zup S (150 + 5 * g + 2) v) u 3 = zT S u 3 from zup_ne _ _ (by omega)]
    omega)
    (fun u hu => by
    rw [show zT (zup S (150 + 5 * g + 2) v) u 0 = zT S u 0 from zup_ne _ _ (by omega)]
    exact hI.2.2.2.2.2.1 u hu)
    (fun u w hu hw => by
    rw [show zT (zup S (150 + 5 * g + 2) v) u 0 = zT S u 0 from zup_ne _ _ (by omega), show zT (zup S (150 + 5 * g + 2) v) w 0 = zT S w 0 from zup_ne _ _ (by omega)]
    exact hI.2.2.2.2.2.2.1 u w hu hw)
    (fun g2 hg2 => by
    by_cases w : g2 = g
    · subst w
      have q := hI.2.2.2.2.1 g2 hg2
      unfold zIg at q ⊢
      rw [show zG (zup S (150 + 5 * g2 + 2) v) g2 0 = zG S g2 0 from zup_ne _ _ (by omega), show zG (zup S (150 + 5 * g2 + 2) v) g2 1 = zG S g2 1 from zup_ne _ _ (by omega), show zG (zup S (150 + 5 * g2 + 2) v) g2 2 = v from zup_eq _ _ _, show zG (zup S (150 + 5 * g2 + 2) v) g2 3 = zG S g2 3 from zup_ne _ _ (by omega), show zG (zup S (150 + 5 * g2 + 2) v) g2 4 = zG S g2 4 from zup_ne _ _ (by omega), show zn (zup S (150 + 5 * g2 + 2) v) 2 = zn S 2 from by unfold zn; rw [zup_ne _ _ (by omega)], show zs 10 (fun b => zB (zup S (150 + 5 * g2 + 2) v) b (7 + g2)) = zs 10 (fun b => zB S b (7 + g2)) from zs_ext (fun b2 hb2 => zup_ne _ _ (by omega))]
      refine ⟨by omega, by omega, by omega, by omega, by omega, by omega, by omega, by omega, by omega, by omega, fun w2 => absurd w2 (by omega)⟩
    · exact zIg_ext hle (zup_ne _ _ (by omega)) (fun k hk => zup_ne _ _ (by omega)) (fun b2 hb2 => zup_ne _ _ (by omega)) (hI.2.2.2.2.1 g2 hg2))
    (by
    rw [zup_ne _ _ (by omega), hI.2.2.2.2.2.2.2]
    exact zs_ext (fun g2 hg2 => (show zG (zup S (150 + 5 * g + 2) v) g2 4 = zG S g2 4 from zup_ne _ _ (by omega)).symm))

theorem zV_walked {S : zR} {h h2 : Nat} (hI : zInv S h) (hle : h ≤ h2) {g : Nat} (hg : g < zn S 2) {v : Int} (hv : 0 ≤ v ∧ v ≤ 27 * h2) : zInv (zup S (150 + 5 * g + 3) v) h2 := by
  have hn := zn_le hI
  have hz := hI.1
  have hzn := zn_eq hI
  exact zInv_ext hI hle (zup_ne _ _ (by omega)) (zup_ne _ _ (by omega)) (zup_ne _ _ (by omega)) (zup_ne _ _ (by omega)) ⟨by rw [zup_ne _ _ (by omega)]; omega, by rw [zup_ne _ _ (by omega)]; omega⟩
    (fun b2 hb2 => ⟨zup_ne _ _ (by omega), zup_ne _ _ (by omega), zup_ne _ _ (by omega)⟩)
    (fun b2 hb2 => by
    have q := (hI.2.1 b2 hb2).2.1
    rw [show zB (zup S (150 + 5 * g + 3) v) b2 3 = zB S b2 3 from zup_ne _ _ (by omega)]
    omega)
    (fun b2 hb2 => by
    have q := (hI.2.1 b2 hb2).2.2
    rw [show zB (zup S (150 + 5 * g + 3) v) b2 5 = zB S b2 5 from zup_ne _ _ (by omega), zat_up b2 (by omega) (fun u hu => by omega)]
    exact q)
    (fun b2 hb2 => Or.inl ⟨zup_ne _ _ (by omega), zup_ne _ _ (by omega)⟩)
    (fun b2 g2 hb2 hg2 => Or.inl (zup_ne _ _ (by omega)))
    (fun u hu => by
    have q := hI.2.2.2.1 u hu
    unfold zIt at q
    rw [show zT (zup S (150 + 5 * g + 3) v) u 0 = zT S u 0 from zup_ne _ _ (by omega), show zT (zup S (150 + 5 * g + 3) v) u 1 = zT S u 1 from zup_ne _ _ (by omega), show zT (zup S (150 + 5 * g + 3) v) u 2 = zT S u 2 from zup_ne _ _ (by omega), show zT (zup S (150 + 5 * g + 3) v) u 3 = zT S u 3 from zup_ne _ _ (by omega)]
    omega)
    (fun u hu => by
    rw [show zT (zup S (150 + 5 * g + 3) v) u 0 = zT S u 0 from zup_ne _ _ (by omega)]
    exact hI.2.2.2.2.2.1 u hu)
    (fun u w hu hw => by
    rw [show zT (zup S (150 + 5 * g + 3) v) u 0 = zT S u 0 from zup_ne _ _ (by omega), show zT (zup S (150 + 5 * g + 3) v) w 0 = zT S w 0 from zup_ne _ _ (by omega)]
    exact hI.2.2.2.2.2.2.1 u w hu hw)
    (fun g2 hg2 => by
    by_cases w : g2 = g
    · subst w
      have q := hI.2.2.2.2.1 g2 hg2
      unfold zIg at q ⊢
      rw [show zG (zup S (150 + 5 * g2 + 3) v) g2 0 = zG S g2 0 from zup_ne _ _ (by omega), show zG (zup S (150 + 5 * g2 + 3) v) g2 1 = zG S g2 1 from zup_ne _ _ (by omega), show zG (zup S (150 + 5 * g2 + 3) v) g2 2 = zG S g2 2 from zup_ne _ _ (by omega), show zG (zup S (150 + 5 * g2 + 3) v) g2 3 = v from zup_eq _ _ _, show zG (zup S (150 + 5 * g2 + 3) v) g2 4 = zG S g2 4 from zup_ne _ _ (by omega), show zn (zup S (150 + 5 * g2 + 3) v) 2 = zn S 2 from by unfold zn; rw [zup_ne _ _ (by omega)], show zs 10 (fun b => zB (zup S (150 + 5 * g2 + 3) v) b (7 + g2)) = zs 10 (fun b => zB S b (7 + g2)) from zs_ext (fun b2 hb2 => zup_ne _ _ (by omega))]
      refine ⟨by omega, by omega, by omega, by omega, by omega, by omega, by omega, by omega, by omega, by omega, fun w2 => absurd w2 (by omega)⟩
    · exact zIg_ext hle (zup_ne _ _ (by omega)) (fun k hk => zup_ne _ _ (by omega)) (fun b2 hb2 => zup_ne _ _ (by omega)) (hI.2.2.2.2.1 g2 hg2))
    (by
    rw [zup_ne _ _ (by omega), hI.2.2.2.2.2.2.2]
    exact zs_ext (fun g2 hg2 => (show zG (zup S (150 + 5 * g + 3) v) g2 4 = zG S g2 4 from zup_ne _ _ (by omega)).symm))

theorem zV_paid {S : zR} {h h2 : Nat} (hI : zInv S h) (hle : h ≤ h2) {b g : Nat} (hb : b < zn S 0) (hg : g < zn S 2) {v : Int} (hv : 0 ≤ v ∧ zG S g 1 + zs 10 (fun c => zB S c (7 + g)) + (v - zB S b (7 + g)) ≤ 99) : zInv (zup S (6 + 12 * b + (7 + g)) v) h2 := by
  have hn := zn_le hI
  have hz := hI.1
  have hzn := zn_eq hI
  exact zInv_ext hI hle (zup_ne _ _ (by omega)) (zup_ne _ _ (by omega)) (zup_ne _ _ (by omega)) (zup_ne _ _ (by omega)) ⟨by rw [zup_ne _ _ (by omega)]; omega, by rw [zup_ne _ _ (by omega)]; omega⟩
    (fun b2 hb2 => ⟨zup_ne _ _ (by omega), zup_ne _ _ (by omega), zup_ne _ _ (by omega)⟩)
    (fun b2 hb2 => by
    have q := (hI.2.1 b2 hb2).2.1
    rw [show zB (zup S (6 + 12 * b + (7 + g)) v) b2 3 = zB S b2 3 from zup_ne _ _ (by omega)]
    omega)
    (fun b2 hb2 => by
    have q := (hI.2.1 b2 hb2).2.2
    rw [show zB (zup S (6 + 12 * b + (7 + g)) v) b2 5 = zB S b2 5 from zup_ne _ _ (by omega), zat_up b2 (by omega) (fun u hu => by omega)]
    exact q)
    (fun b2 hb2 => Or.inl ⟨zup_ne _ _ (by omega), zup_ne _ _ (by omega)⟩)
    (fun b2 g2 hb2 hg2 => by
    by_cases w : b2 = b ∧ g2 = g
    · obtain ⟨rfl, rfl⟩ := w
      exact Or.inr ⟨hb, hg, by rw [show zB (zup S (6 + 12 * b2 + (7 + g2)) v) b2 (7 + g2) = v from zup_eq _ _ _]; exact hv.1⟩
    · exact Or.inl (zup_ne _ _ (by omega)))
    (fun u hu => by
    have q := hI.2.2.2.1 u hu
    unfold zIt at q
    rw [show zT (zup S (6 + 12 * b + (7 + g)) v) u 0 = zT S u 0 from zup_ne _ _ (by omega), show zT (zup S (6 + 12 * b + (7 + g)) v) u 1 = zT S u 1 from zup_ne _ _ (by omega), show zT (zup S (6 + 12 * b + (7 + g)) v) u 2 = zT S u 2 from zup_ne _ _ (by omega), show zT (zup S (6 + 12 * b + (7 + g)) v) u 3 = zT S u 3 from zup_ne _ _ (by omega)]
    omega)
    (fun u hu => by
    rw [show zT (zup S (6 + 12 * b + (7 + g)) v) u 0 = zT S u 0 from zup_ne _ _ (by omega)]
    exact hI.2.2.2.2.2.1 u hu)
    (fun u w hu hw => by
    rw [show zT (zup S (6 + 12 * b + (7 + g)) v) u 0 = zT S u 0 from zup_ne _ _ (by omega), show zT (zup S (6 + 12 * b + (7 + g)) v) w 0 = zT S w 0 from zup_ne _ _ (by omega)]
    exact hI.2.2.2.2.2.2.1 u w hu hw)
    (fun g2 hg2 => by
    by_cases w : g2 = g
    · subst w
      have q := hI.2.2.2.2.1 g2 hg2
      have q2 := zs_upd (n := 10) (f := fun c => zB S c (7 + g2)) (g := fun c => zB (zup S (6 + 12 * b + (7 + g2)) v) c (7 + g2)) b (by omega) (fun j hj hne => zup_ne _ _ (by omega))
      rw [show zB (zup S (6 + 12 * b + (7 + g2)) v) b (7 + g2) = v from zup_eq _ _ _] at q2
      unfold zIg at q ⊢
      rw [show zG (zup S (6 + 12 * b + (7 + g2)) v) g2 0 = zG S g2 0 from zup_ne _ _ (by omega), show zG (zup S (6 + 12 * b + (7 + g2)) v) g2 1 = zG S g2 1 from zup_ne _ _ (by omega), show zG (zup S (6 + 12 * b + (7 + g2)) v) g2 2 = zG S g2 2 from zup_ne _ _ (by omega), show zG (zup S (6 + 12 * b + (7 + g2)) v) g2 3 = zG S g2 3 from zup_ne _ _ (by omega), show zG (zup S (6 + 12 * b + (7 + g2)) v) g2 4 = zG S g2 4 from zup_ne _ _ (by omega), show zn (zup S (6 + 12 * b + (7 + g2)) v) 2 = zn S 2 from by unfold zn; rw [zup_ne _ _ (by omega)]]
      refine ⟨by omega, by omega, by omega, by omega, by omega, by omega, by omega, by omega, by omega, by omega, fun w2 => absurd w2 (by omega)⟩
    · exact zIg_ext hle (zup_ne _ _ (by omega)) (fun k hk => zup_ne _ _ (by omega)) (fun b2 hb2 => zup_ne _ _ (by omega)) (hI.2.2.2.2.1 g2 hg2))
    (by
    rw [zup_ne _ _ (by omega), hI.2.2.2.2.2.2.2]
    exact zs_ext (fun g2 hg2 => (show zG (zup S (6 + 12 * b + (7 + g)) v) g2 4 = zG S g2 4 from zup_ne _ _ (by omega)).symm))

theorem zV_crossings {S : zR} {h h2 : Nat} (hI : zInv S h) (hle : h ≤ h2) {g : Nat} (hg : g < zn S 2) (hv : zG S g 4 + 1 ≤ h2) : zInv (zup (zup S (150 + 5 * g + 4) (zG S g 4 + 1)) 4 (S 4 + 1)) h2 := by
  have hn := zn_le hI
  have hz := hI.1
  have hzn := zn_eq hI
  have ne2 : ∀ j, j ≠ 4 → j ≠ 150 + 5 * g + 4 → (zup (zup S (150 + 5 * g + 4) (zG S g 4 + 1)) 4 (S 4 + 1)) j = S j := fun j h1 h2 => by rw [zup_ne _ _ h1, zup_ne _ _ h2]
  have e4 : zG (zup (zup S (150 + 5 * g + 4) (zG S g 4 + 1)) 4 (S 4 + 1)) g 4 = zG S g 4 + 1 := by unfold zG; rw [zup_ne _ _ (by omega), zup_eq]
  exact zInv_ext hI (by omega) (ne2 _ (by omega) (by omega)) (ne2 _ (by omega) (by omega)) (ne2 _ (by omega) (by omega)) (ne2 _ (by omega) (by omega)) ⟨by rw [ne2 _ (by omega) (by omega)]; omega, by rw [ne2 _ (by omega) (by omega)]; omega⟩
    (fun b2 hb2 => ⟨ne2 _ (by omega) (by omega), ne2 _ (by omega) (by omega), ne2 _ (by omega) (by omega)⟩)
    (fun b2 hb2 => by
    have q := (hI.2.1 b2 hb2).2.1
    rw [show zB (zup (zup S (150 + 5 * g + 4) (zG S g 4 + 1)) 4 (S 4 + 1)) b2 3 = zB S b2 3 from ne2 _ (by omega) (by omega)]
    omega)
    (fun b2 hb2 => by
    have q := (hI.2.1 b2 hb2).2.2
    rw [show zB (zup (zup S (150 + 5 * g + 4) (zG S g 4 + 1)) 4 (S 4 + 1)) b2 5 = zB S b2 5 from ne2 _ (by omega) (by omega), zat_up b2 (by omega) (fun u hu => by omega), zat_up b2 (by omega) (fun u hu => by omega)]
    exact q)
    (fun b2 hb2 => Or.inl ⟨ne2 _ (by omega) (by omega), ne2 _ (by omega) (by omega)⟩)
    (fun b2 g2 hb2 hg2 => Or.inl (ne2 _ (by omega) (by omega)))
    (fun u hu => by
    have q := hI.2.2.2.1 u hu
    unfold zIt at q
    rw [show zT (zup (zup S (150 + 5 * g + 4) (zG S g 4 + 1)) 4 (S 4 + 1)) u 0 = zT S u 0 from ne2 _ (by omega) (by omega), show zT (zup (zup S (150 + 5 * g + 4) (zG S g 4 + 1)) 4 (S 4 + 1)) u 1 = zT S u 1 from ne2 _ (by omega) (by omega), show zT (zup (zup S (150 + 5 * g + 4) (zG S g 4 + 1)) 4 (S 4 + 1)) u 2 = zT S u 2 from ne2 _ (by omega) (by omega), show zT (zup (zup S (150 + 5 * g + 4) (zG S g 4 + 1)) 4 (S 4 + 1)) u 3 = zT S u 3 from ne2 _ (by omega) (by omega)]
    omega)
    (fun u hu => by
    rw [show zT (zup (zup S (150 + 5 * g + 4) (zG S g 4 + 1)) 4 (S 4 + 1)) u 0 = zT S u 0 from ne2 _ (by omega) (by omega)]
    exact hI.2.2.2.2.2.1 u hu)
    (fun u w hu hw => by
    rw [show zT (zup (zup S (150 + 5 * g + 4) (zG S g 4 + 1)) 4 (S 4 + 1)) u 0 = zT S u 0 from ne2 _ (by omega) (by omega), show zT (zup (zup S (150 + 5 * g + 4) (zG S g 4 + 1)) 4 (S 4 + 1)) w 0 = zT S w 0 from ne2 _ (by omega) (by omega)]
    exact hI.2.2.2.2.2.2.1 u w hu hw)
    (fun g2 hg2 => by
    by_cases w : g2 = g
    · subst w
      have q := hI.2.2.2.2.1 g2 hg2
      unfold zIg at q ⊢
      rw [show zG (zup (zup S (150 + 5 * g2 + 4) (zG S g2 4 + 1)) 4 (S 4 + 1)) g2 0 = zG S g2 0 from ne2 _ (by omega) (by omega), show zG (zup (zup S (150 + 5 * g2 + 4) (zG S g2 4 + 1)) 4 (S 4 + 1)) g2 1 = zG S g2 1 from ne2 _ (by omega) (by omega), show zG (zup (zup S (150 + 5 * g2 + 4) (zG S g2 4 + 1)) 4 (S 4 + 1)) g2 2 = zG S g2 2 from ne2 _ (by omega) (by omega), show zG (zup (zup S (150 + 5 * g2 + 4) (zG S g2 4 + 1)) 4 (S 4 + 1)) g2 3 = zG S g2 3 from ne2 _ (by omega) (by omega), show zG (zup (zup S (150 + 5 * g2 + 4) (zG S g2 4 + 1)) 4 (S 4 + 1)) g2 4 = zG S g2 4 + 1 from by unfold zG; rw [zup_ne _ _ (by omega), zup_eq], show zn (zup (zup S (150 + 5 * g2 + 4) (zG S g2 4 + 1)) 4 (S 4 + 1)) 2 = zn S 2 from by unfold zn; rw [ne2 _ (by omega) (by omega)], show zs 10 (fun b => zB (zup (zup S (150 + 5 * g2 + 4) (zG S g2 4 + 1)) 4 (S 4 + 1)) b (7 + g2)) = zs 10 (fun b => zB S b (7 + g2)) from zs_ext (fun b2 hb2 => ne2 _ (by omega) (by omega))]
      refine ⟨by omega, by omega, by omega, by omega, by omega, by omega, by omega, by omega, by omega, by omega, fun w2 => absurd w2 (by omega)⟩
    · exact zIg_ext (by omega) (ne2 _ (by omega) (by omega)) (fun k hk => ne2 _ (by omega) (by omega)) (fun b2 hb2 => ne2 _ (by omega) (by omega)) (hI.2.2.2.2.1 g2 hg2))
    (by
    have q3 := hI.2.2.2.2.2.2.2
    rw [zup_eq]
    have q2 := zs_upd (n := 5) (f := fun c => zG S c 4) (g := fun c => zG (zup (zup S (150 + 5 * g + 4) (zG S g 4 + 1)) 4 (S 4 + 1)) c 4) g (by omega) (fun j hj hne => ne2 _ (by omega) (by omega))
    rw [e4] at q2
    omega)

