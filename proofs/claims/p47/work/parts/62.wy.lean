/-! THE LAW, 2: the least of all ways, told a third time; written by program (wip/p47tools/l62.py), the math by hand (m62.txt) -/
def zwU (W : Nat → Int) (i : Nat) (x : Int) : Nat → Int := fun j => if j = i then x else W j
theorem zwU_at (W : Nat → Int) (i : Nat) (x : Int) : zwU W i x i = x := if_pos rfl
theorem zwU_ne (W : Nat → Int) {i j : Nat} (x : Int) (h : j ≠ i) : zwU W i x j = W j := if_neg h
def zw0 (k i : Nat) : Int := if i < k then (if i / 6 = i % 6 then 0 else 9999) else 0
def zmn (x y : Int) : Int := if y < x then y else x
/-- the rows behind b bridges -/
def zwB (S : zR) (m : Nat) : Nat → Nat → Int
  | 0 => zw0 36
  | b + 1 => zwU (zwU (zwB S m b) (6 * (zB S b 0).toNat + (zB S b 1).toNat) (zmn (zwB S m b (6 * (zB S b 0).toNat + (zB S b 1).toNat)) (zln S m b))) (6 * (zB S b 1).toNat + (zB S b 0).toNat) (zmn (zwB S m b (6 * (zB S b 0).toNat + (zB S b 1).toNat)) (zln S m b))
/-- a land more to go over -/
def zfs (o : Nat) (W : Nat → Int) (j : Nat) : Int := if j < 36 then zmn (W j) (W (j / 6 * 6 + o) + W (6 * o + j % 6)) else W j
def zfP (o : Nat) (W : Nat → Int) (k j : Nat) : Int := if j < k then zfs o W j else W j
def zfw (S : zR) (m : Nat) : Nat → Nat → Int
  | 0 => zwB S m (zn S 0)
  | o + 1 => zfs o (zfw S m o)
theorem zmn_le (x y : Int) : zmn x y ≤ x ∧ zmn x y ≤ y ∧ (zmn x y = x ∨ zmn x y = y) := by
  unfold zmn
  split
  · exact ⟨by omega, by omega, Or.inr rfl⟩
  · exact ⟨by omega, by omega, Or.inl rfl⟩
def zWI (S : zR) (m : Nat) (W : Nat → Int) : Prop := (∀ u, u < 6 → W (6 * u + u) = 0) ∧ (∀ j, j < 36 → 0 ≤ W j ∧ W j ≤ 9999) ∧ (∀ u v, u < 6 → v < 6 → W (6 * u + v) < 9999 → ∃ n, zwk S m u n v (W (6 * u + v)))
theorem zw0_I (S : zR) (m : Nat) : zWI S m (zw0 36) := by
  refine ⟨fun u hu => ?_, fun j hj => ?_, fun u v hu hv h => ?_⟩
  · unfold zw0
    rw [if_pos (by omega), if_pos (by omega)]
  · unfold zw0
    rw [if_pos hj]
    split <;> omega
  · unfold zw0 at h ⊢
    rw [if_pos (by omega)] at h ⊢
    by_cases q : (6 * u + v) / 6 = (6 * u + v) % 6
    · rw [if_pos q]
      exact ⟨0, by omega, rfl⟩
    · rw [if_neg q] at h
      omega
theorem zwB_I {S : zR} {h : Nat} (hI : zInv S h) (hh : h ≤ 10000) (m : Nat) : ∀ b, b ≤ zn S 0 → zWI S m (zwB S m b) ∧ (∀ u v, u < 6 → v < 6 → zwB S m b (6 * u + v) = zwB S m b (6 * v + u)) ∧ (∀ j u v, j < b → u < 6 → v < 6 → zed S j u v → zwB S m b (6 * u + v) ≤ zln S m j)
  | 0, _ => by
    refine ⟨zw0_I S m, fun u v hu hv => ?_, fun j u v hj => by omega⟩
    show zw0 36 (6 * u + v) = zw0 36 (6 * v + u)
    by_cases q : u = v
    · rw [q]
    · unfold zw0
      rw [if_pos (show 6 * u + v < 36 by omega), if_pos (show 6 * v + u < 36 by omega), if_neg (show ¬ (6 * u + v) / 6 = (6 * u + v) % 6 by omega), if_neg (show ¬ (6 * v + u) / 6 = (6 * v + u) % 6 by omega)]
  | b + 1, hb => by
    obtain ⟨⟨i1, i2, i3⟩, i4, i5⟩ := zwB_I hI hh m b (by omega)
    have hz := zI_b hI hh (b := b) (by omega)
    have hl := zln_r hI hh (m := m) (b := b) (by omega)
    show zWI S m (zwU (zwU (zwB S m b) _ _) _ _) ∧ (∀ u v, u < 6 → v < 6 → zwU (zwU (zwB S m b) _ _) _ _ (6 * u + v) = zwU (zwU (zwB S m b) _ _) _ _ (6 * v + u)) ∧ (∀ j u v, j < b + 1 → u < 6 → v < 6 → zed S j u v → zwU (zwU (zwB S m b) _ _) _ _ (6 * u + v) ≤ zln S m j)
    obtain ⟨p, hp⟩ : ∃ p : Nat, zB S b 0 = (p : Int) := ⟨(zB S b 0).toNat, by omega⟩
    obtain ⟨q, hq⟩ : ∃ q : Nat, zB S b 1 = (q : Int) := ⟨(zB S b 1).toNat, by omega⟩
    have ep : (zB S b 0).toNat = p := by omega
    have eq' : (zB S b 1).toNat = q := by omega
    rw [ep, eq']
    have hp6 : p < 6 ∧ q < 6 ∧ p ≠ q := by omega
    generalize zwB S m b = W at i1 i2 i3 i4 i5 ⊢
    have hx := zmn_le (W (6 * p + q)) (zln S m b)
    have hxr : 0 ≤ zmn (W (6 * p + q)) (zln S m b) := by
      have := i2 (6 * p + q) (by omega)
      omega
    have hwx : ∀ u v, (u = p ∧ v = q) ∨ (u = q ∧ v = p) → zmn (W (6 * p + q)) (zln S m b) < 9999 → ∃ n, zwk S m u n v (zmn (W (6 * p + q)) (zln S m b)) := by
      intro u v huv hlt
      rcases hx.2.2 with e | e
      · rw [e] at hlt ⊢
        rcases huv with ⟨rfl, rfl⟩ | ⟨rfl, rfl⟩
        · exact i3 u v (by omega) (by omega) hlt
        · rw [i4 v u (by omega) (by omega)] at hlt ⊢
          exact i3 u v (by omega) (by omega) hlt
      · rw [e]
        refine ⟨1, b, u, by omega, by omega, ?_, rfl, by omega⟩
        unfold zed
        rw [hp, hq]
        omega
    generalize hX : zmn (W (6 * p + q)) (zln S m b) = x at hx hxr hwx ⊢
    have e1 : ∀ u v, u < 6 → v < 6 → zwU (zwU W (6 * p + q) x) (6 * q + p) x (6 * u + v) = if (u = p ∧ v = q) ∨ (u = q ∧ v = p) then x else W (6 * u + v) := by
      intro u v hu hv
      by_cases w1 : u = q ∧ v = p
      · rw [if_pos (Or.inr w1), w1.1, w1.2, zwU_at]
      · rw [zwU_ne _ _ (by omega)]
        by_cases w2 : u = p ∧ v = q
        · rw [if_pos (Or.inl w2), w2.1, w2.2, zwU_at]
        · rw [zwU_ne _ _ (by omega), if_neg (by omega)]
    refine ⟨⟨fun u hu => ?_, fun j hj => ?_, fun u v hu hv hlt => ?_⟩, fun u v hu hv => ?_, fun j u v hj hu hv he => ?_⟩
    · rw [e1 u u hu hu, if_neg (by omega)]
      exact i1 u hu
    · have ej : j = 6 * (j / 6) + j % 6 := by omega
      rw [ej, e1 (j / 6) (j % 6) (by omega) (by omega)]
      have h9 := i2 (6 * p + q) (by omega)
      split
      · omega
      · exact i2 _ (by omega)
    · rw [e1 u v hu hv] at hlt ⊢
      split at hlt
      · rename_i w
        rw [if_pos w]
        exact hwx u v w hlt
      · rename_i w
        rw [if_neg w]
        exact i3 u v hu hv hlt
    · rw [e1 u v hu hv, e1 v u hv hu]
      by_cases w : (u = p ∧ v = q) ∨ (u = q ∧ v = p)
      · rw [if_pos w, if_pos (by omega)]
      · rw [if_neg w, if_neg (by omega)]
        exact i4 u v hu hv
    · rw [e1 u v hu hv]
      by_cases hjb : j = b
      · subst hjb
        have : (u = p ∧ v = q) ∨ (u = q ∧ v = p) := by
          unfold zed at he
          rw [hp, hq] at he
          omega
        rw [if_pos this]
        exact hx.2.1
      · have h8 := i5 j u v (by omega) hu hv he
        split
        · rename_i w
          rcases w with ⟨rfl, rfl⟩ | ⟨rfl, rfl⟩
          · omega
          · rw [i4 u v (by omega) (by omega)] at h8
            omega
        · exact h8
theorem zwk_cat {S : zR} {m u k : Nat} {x : Int} {n1 : Nat} (h1 : zwk S m u n1 k x) : ∀ (n2 v : Nat) (y : Int), zwk S m k n2 v y → ∃ n, zwk S m u n v (x + y)
  | 0, v, y, h2 => by
    obtain ⟨rfl, rfl⟩ := h2
    exact ⟨n1, by rw [Int.add_zero]; exact h1⟩
  | n2 + 1, v, y, ⟨b, w, hb, hw, he, h2⟩ => by
    obtain ⟨n, h3⟩ := zwk_cat h1 n2 w _ h2
    refine ⟨n + 1, b, w, hb, hw, he, ?_⟩
    rw [show x + y - zln S m b = x + (y - zln S m b) from by omega]
    exact h3
theorem zfs_at {o : Nat} {W : Nat → Int} {u v : Nat} (hu : u < 6) (hv : v < 6) : zfs o W (6 * u + v) = zmn (W (6 * u + v)) (W (6 * u + o) + W (6 * o + v)) := by
  unfold zfs
  rw [if_pos (by omega), show (6 * u + v) / 6 * 6 + o = 6 * u + o from by omega, show (6 * u + v) % 6 = v from by omega]
theorem zfs_I {S : zR} {m o : Nat} (ho : o < 6) {W : Nat → Int} (hW : zWI S m W) : zWI S m (zfs o W) := by
  obtain ⟨i1, i2, i3⟩ := hW
  refine ⟨fun u hu => ?_, fun j hj => ?_, fun u v hu hv hlt => ?_⟩
  · rw [zfs_at hu hu, i1 u hu]
    have a := i2 (6 * u + o) (by omega)
    have b := i2 (6 * o + u) (by omega)
    unfold zmn
    rw [if_neg (by omega)]
  · rw [show j = 6 * (j / 6) + j % 6 from by omega, zfs_at (by omega) (by omega)]
    have a := i2 (6 * (j / 6) + o) (by omega)
    have b := i2 (6 * o + j % 6) (by omega)
    have c := i2 (6 * (j / 6) + j % 6) (by omega)
    have := zmn_le (W (6 * (j / 6) + j % 6)) (W (6 * (j / 6) + o) + W (6 * o + j % 6))
    omega
  · rw [zfs_at hu hv] at hlt ⊢
    have a := i2 (6 * u + o) (by omega)
    have b := i2 (6 * o + v) (by omega)
    rcases (zmn_le (W (6 * u + v)) (W (6 * u + o) + W (6 * o + v))).2.2 with e | e
    · rw [e] at hlt ⊢
      exact i3 u v hu hv hlt
    · rw [e] at hlt ⊢
      obtain ⟨n1, w1⟩ := i3 u o hu ho (by omega)
      obtain ⟨n2, w2⟩ := i3 o v ho hv (by omega)
      exact zwk_cat w1 n2 v _ w2
/-- ways over the lands below o are in it -/
def zWc (W : Nat → Int) (o : Nat) : Prop := ∀ w u v, w < o → u < 6 → v < 6 → W (6 * u + v) ≤ W (6 * u + w) + W (6 * w + v)
theorem zfs_c {S : zR} {m o : Nat} (ho : o < 6) {W : Nat → Int} (hW : zWI S m W) (hc : zWc W o) : zWc (zfs o W) (o + 1) := by
  obtain ⟨i1, i2, -⟩ := hW
  intro w u v hw hu hv
  rw [zfs_at hu hv, zfs_at hu (by omega), zfs_at (by omega) hv]
  have h0 := i1 o ho
  have m1 := zmn_le (W (6 * u + v)) (W (6 * u + o) + W (6 * o + v))
  have m2 := zmn_le (W (6 * u + w)) (W (6 * u + o) + W (6 * o + w))
  have m3 := zmn_le (W (6 * w + v)) (W (6 * w + o) + W (6 * o + v))
  have p1 := i2 (6 * o + w) (by omega)
  have p2 := i2 (6 * w + o) (by omega)
  by_cases q : w = o
  · subst q
    omega
  · have c1 := hc w u v (by omega) hu hv
    have c2 := hc w o v (by omega) ho hv
    have c3 := hc w u o (by omega) hu ho
    omega
theorem zfw_I {S : zR} {h : Nat} (hI : zInv S h) (hh : h ≤ 10000) (m : Nat) : ∀ o, o ≤ 6 → zWI S m (zfw S m o) ∧ zWc (zfw S m o) o ∧ ∀ j u v, j < zn S 0 → u < 6 → v < 6 → zed S j u v → zfw S m o (6 * u + v) ≤ zln S m j
  | 0, _ => by
    obtain ⟨h1, -, h3⟩ := zwB_I hI hh m (zn S 0) (Nat.le_refl _)
    exact ⟨h1, fun w u v hw => by omega, h3⟩
  | o + 1, ho => by
    obtain ⟨h1, h2, h3⟩ := zfw_I hI hh m o (by omega)
    refine ⟨zfs_I (by omega) h1, zfs_c (by omega) h1 h2, fun j u v hj hu hv he => ?_⟩
    have k := h3 j u v hj hu hv he
    have := zmn_le (zfw S m o (6 * u + v)) (zfw S m o (6 * u + o) + zfw S m o (6 * o + v))
    show zfs o (zfw S m o) (6 * u + v) ≤ _
    rw [zfs_at hu hv]
    omega
/-- the rows at the end are the least lengths -/
theorem zfw_d {S : zR} {h : Nat} (hI : zInv S h) (hh : h ≤ 10000) (m : Nat) {u : Nat} (hu : u < 6) : zgd S m u 9999 (fun v => zfw S m 6 (6 * u + v)) := by
  obtain ⟨⟨i1, i2, i3⟩, hc, he⟩ := zfw_I hI hh m 6 (Nat.le_refl _)
  refine ⟨i1 u hu, fun v hv => i2 _ (by omega), fun b w v hb hw hv hed => ?_, fun v hv hlt => i3 u v hu hv hlt⟩
  have k1 := hc w u v hw hu hv
  have k2 := he b w v hb hw hv hed
  show zfw S m 6 (6 * u + v) ≤ zfw S m 6 (6 * u + w) + zln S m b
  omega
theorem zfw_e {S : zR} {h : Nat} (hI : zInv S h) (hh : h ≤ 10000) (m : Nat) {u : Nat} (hu : u < 6) : ∃ E, zgd S m u 1000 E := by
  have hD := zfw_d hI hh m hu
  have hn : ∀ v, v < 6 → zfw S m 6 (6 * u + v) < 9999 → zfw S m 6 (6 * u + v) ≤ 135 := fun v hv hlt => by
    obtain ⟨n, hw⟩ := hD.2.2.2 v hv hlt
    exact zwk_near hI hh hu hD n v _ hv hw
  refine ⟨fun v => if zfw S m 6 (6 * u + v) < 9999 then zfw S m 6 (6 * u + v) else 1000, ?_, fun v hv => ?_, fun b w v hb hw hv hed => ?_, fun v hv hlt => ?_⟩
  · have e0 : zfw S m 6 (6 * u + u) = 0 := hD.1
    show (if zfw S m 6 (6 * u + u) < 9999 then zfw S m 6 (6 * u + u) else 1000) = 0
    rw [e0]
    rfl
  · have a : 0 ≤ zfw S m 6 (6 * u + v) ∧ zfw S m 6 (6 * u + v) ≤ 9999 := hD.2.1 v hv
    have b := hn v hv
    dsimp only
    split <;> omega
  · have a : zfw S m 6 (6 * u + v) ≤ zfw S m 6 (6 * u + w) + zln S m b := hD.2.2.1 b w v hb hw hv hed
    have b1 := hn v hv
    have b2 := hn w hw
    have c := zln_r hI hh (m := m) hb
    dsimp only
    split <;> split <;> omega
  · dsimp only at hlt ⊢
    split at hlt
    · rename_i q
      rw [if_pos q]
      exact hD.2.2.2 v hv q
    · omega
/-- against the class's own -/
theorem zfw_v {S : zR} {h : Nat} (hI : zInv S h) (hh : h ≤ 10000) (m : Nat) {u v : Nat} (hu : u < 6) (hv : v < 6) : (zfw S m 6 (6 * u + v) = 9999 ∧ zdi S m u v = 1000 ∧ zwy S m u v = -1) ∨ (zfw S m 6 (6 * u + v) = zdi S m u v ∧ 0 ≤ zdi S m u v ∧ zdi S m u v ≤ 135 ∧ zwy S m u v = zdi S m u v) := by
  rcases zdi_r hI hh hu (T := 9999) (by decide) (zfw_d hI hh m hu) (zfw_e hI hh m hu) hv with ⟨h1, h2⟩ | ⟨h1, h2, h3, h4⟩
  · left
    refine ⟨h1, h2, ?_⟩
    unfold zwy
    rw [if_pos h2]
  · right
    have h1' : zfw S m 6 (6 * u + v) = zdi S m u v := h1
    refine ⟨h1', by omega, by omega, ?_⟩
    unfold zwy
    rw [if_neg (by omega)]
theorem zfP_k {S : zR} {m o k : Nat} (ho : o < 6) (hk : k < 36) {W : Nat → Int} (hW : zWI S m W) : zfP o W k k = W k ∧ zfP o W k (k / 6 * 6 + o) = W (k / 6 * 6 + o) ∧ zfP o W k (6 * o + k % 6) = W (6 * o + k % 6) := by
  obtain ⟨i1, i2, -⟩ := hW
  have h0 := i1 o ho
  refine ⟨if_neg (by omega), ?_, ?_⟩
  · unfold zfP
    split
    · rw [show k / 6 * 6 + o = 6 * (k / 6) + o from by omega, zfs_at (by omega) ho, h0]
      unfold zmn
      rw [if_neg (by omega)]
    · rfl
  · unfold zfP
    split
    · rw [zfs_at ho (by omega), h0]
      unfold zmn
      rw [if_neg (by omega)]
    · rfl
theorem zfP_s {s : az_S} {r o k : Nat} {W : Nat → Int} (h : s r = zfP o W k) (hk : k < 36) : (am_up s r k (zmn (W k) (W (k / 6 * 6 + o) + W (6 * o + k % 6)))) r = zfP o W (k + 1) := by
  rw [am_up_row, h]
  funext j
  unfold zfP
  by_cases q : j = k
  · subst q
    rw [if_pos rfl, if_pos (by omega)]
    unfold zfs
    rw [if_pos hk]
  · rw [if_neg q]
    by_cases q2 : j < k
    · rw [if_pos q2, if_pos (show j < k + 1 by omega)]
    · rw [if_neg q2, if_neg (show ¬ j < k + 1 by omega)]
theorem zfP_e {o : Nat} {W : Nat → Int} : zfP o W 36 = zfs o W := by
  funext j
  unfold zfP
  split
  · rfl
  · unfold zfs
    rename_i q
    rw [if_neg q]
theorem zfP_0 {o : Nat} {W : Nat → Int} : zfP o W 0 = W := by
  funext j
  exact if_neg (by omega)
theorem zw0_s {s : az_S} {r k : Nat} {x : Int} (h : s r = zw0 k) (hx : x = if k / 6 = k % 6 then 0 else 9999) : (am_up s r k x) r = zw0 (k + 1) := by
  rw [am_up_row, h, hx]
  funext j
  unfold zw0
  by_cases q : j = k
  · subst q
    rw [if_pos rfl, if_pos (show j < j + 1 by omega)]
  · rw [if_neg q]
    by_cases q2 : j < k
    · rw [if_pos q2, if_pos (show j < k + 1 by omega)]
    · rw [if_neg q2, if_neg (show ¬ j < k + 1 by omega)]
theorem zw0_0 : zw0 0 = fun _ => 0 := by
  funext j
  exact if_neg (by omega)
theorem zlB_v0 {S : zR} {b : Nat} (hb : b < zn S 0) : zlB S ((b : Nat) : Int) 0 = zB S b 0 := by unfold zlB zq_bridgeOf; rw [if_neg (not_not_intro ⟨by omega, by omega⟩), if_neg (by decide)]; rfl
theorem zlB_v1 {S : zR} {b : Nat} (hb : b < zn S 0) : zlB S ((b : Nat) : Int) 1 = zB S b 1 := by unfold zlB zq_bridgeOf; rw [if_neg (not_not_intro ⟨by omega, by omega⟩), if_neg (by decide)]; rfl
theorem zlB_v2 {S : zR} {b : Nat} (hb : b < zn S 0) : zlB S ((b : Nat) : Int) 2 = zB S b 2 := by unfold zlB zq_bridgeOf; rw [if_neg (not_not_intro ⟨by omega, by omega⟩), if_neg (by decide)]; rfl
theorem zlB_v3 {S : zR} {b : Nat} (hb : b < zn S 0) : zlB S ((b : Nat) : Int) 3 = zB S b 3 := by unfold zlB zq_bridgeOf; rw [if_neg (not_not_intro ⟨by omega, by omega⟩), if_neg (by decide)]; rfl
theorem zlB_v4 {S : zR} {b : Nat} (hb : b < zn S 0) : zlB S ((b : Nat) : Int) 4 = zat S b := by unfold zlB zq_bridgeOf; rw [if_neg (not_not_intro ⟨by omega, by omega⟩), if_neg (by decide)]; rfl
theorem zlB_v5 {S : zR} {b : Nat} (hb : b < zn S 0) : zlB S ((b : Nat) : Int) 5 = az_b (S 3 < zB S b 4) := by unfold zlB zq_bridgeOf; rw [if_neg (not_not_intro ⟨by omega, by omega⟩), if_neg (by decide)]; rfl
theorem zlB_v6 {S : zR} {b : Nat} (hb : b < zn S 0) : zlB S ((b : Nat) : Int) 6 = zB S b 5 := by unfold zlB zq_bridgeOf; rw [if_neg (not_not_intro ⟨by omega, by omega⟩), if_neg (by decide)]; rfl
theorem zlB_v7 {S : zR} {b : Nat} (hb : b < zn S 0) : zlB S ((b : Nat) : Int) 7 = zch S b := by unfold zlB zq_bridgeOf; rw [if_neg (not_not_intro ⟨by omega, by omega⟩), if_neg (by decide)]; rfl
theorem zlB_v8 {S : zR} {b : Nat} (hb : b < zn S 0) : zlB S ((b : Nat) : Int) 8 = zB S b 6 := by unfold zlB zq_bridgeOf; rw [if_neg (not_not_intro ⟨by omega, by omega⟩), if_neg (by decide)]; rfl
theorem zlT_v0 {S : zR} {b : Nat} (hb : b < zn S 1) : zlT S ((b : Nat) : Int) 0 = zT S b 0 := by unfold zlT zq_trollOf; rw [if_neg (not_not_intro ⟨by omega, by omega⟩), if_neg (by decide)]; rfl
theorem zlT_v1 {S : zR} {b : Nat} (hb : b < zn S 1) : zlT S ((b : Nat) : Int) 1 = zT S b 1 := by unfold zlT zq_trollOf; rw [if_neg (not_not_intro ⟨by omega, by omega⟩), if_neg (by decide)]; rfl
theorem zlT_v2 {S : zR} {b : Nat} (hb : b < zn S 1) : zlT S ((b : Nat) : Int) 2 = zdn S b := by unfold zlT zq_trollOf; rw [if_neg (not_not_intro ⟨by omega, by omega⟩), if_neg (by decide)]; rfl
theorem zlT_v3 {S : zR} {b : Nat} (hb : b < zn S 1) : zlT S ((b : Nat) : Int) 3 = zrh S b := by unfold zlT zq_trollOf; rw [if_neg (not_not_intro ⟨by omega, by omega⟩), if_neg (by decide)]; rfl
theorem zlG_v0 {S : zR} {b : Nat} (hb : b < zn S 2) : zlG S ((b : Nat) : Int) 0 = zG S b 0 := by unfold zlG zq_goatOf; rw [if_neg (not_not_intro ⟨by omega, by omega⟩), if_neg (by decide)]; rfl
theorem zlG_v1 {S : zR} {b : Nat} (hb : b < zn S 2) : zlG S ((b : Nat) : Int) 1 = zG S b 1 := by unfold zlG zq_goatOf; rw [if_neg (not_not_intro ⟨by omega, by omega⟩), if_neg (by decide)]; rfl
theorem zlG_v2 {S : zR} {b : Nat} (hb : b < zn S 2) : zlG S ((b : Nat) : Int) 2 = zG S b 2 := by unfold zlG zq_goatOf; rw [if_neg (not_not_intro ⟨by omega, by omega⟩), if_neg (by decide)]; rfl
theorem zlG_v4 {S : zR} {b : Nat} (hb : b < zn S 2) : zlG S ((b : Nat) : Int) 4 = zG S b 4 := by unfold zlG zq_goatOf; rw [if_neg (not_not_intro ⟨by omega, by omega⟩), if_neg (by decide)]; rfl
theorem zlG_v5 {S : zR} {b : Nat} (hb : b < zn S 2) : zlG S ((b : Nat) : Int) 5 = zcg S b := by unfold zlG zq_goatOf; rw [if_neg (not_not_intro ⟨by omega, by omega⟩), if_neg (by decide)]; rfl
