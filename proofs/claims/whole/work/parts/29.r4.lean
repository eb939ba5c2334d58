/-! REFERENCE, 4: the changes of its face; written by program (wip/tools/zg/r4.py) -/
theorem va_cpy_s (f g : Nat → Int) (b a k : Nat) : zup (va_cpy f g b a k) (a + k) (f (b + k)) = va_cpy f g b a (k + 1) := by
  funext j
  unfold zup va_cpy
  by_cases q : j = a + k
  · rw [if_pos q, if_pos (by omega)]
    congr 1
    omega
  · rw [if_neg q]
    by_cases q2 : a ≤ j ∧ j < a + k
    · rw [if_pos q2, if_pos (by omega)]
    · rw [if_neg q2, if_neg (by omega)]
theorem va_cpy_0 (f g : Nat → Int) (b a : Nat) : va_cpy f g b a 0 = g := by
  funext j
  exact if_neg (by omega)
/-- the past moved down by k places -/
def zsh7 (P : Nat → Int) (k : Nat) : Nat → Int := fun j => if j < 175 * k then P (j + 175) else P j
theorem zsh7_0 (P : Nat → Int) : zsh7 P 0 = P := by
  funext j
  exact if_neg (by omega)
theorem zsh7_s (P : Nat → Int) (k : Nat) : va_cpy (zsh7 P k) (zsh7 P k) (175 * (k + 1)) (175 * k) 175 = zsh7 P (k + 1) := by
  funext j
  unfold va_cpy zsh7
  by_cases q : 175 * k ≤ j ∧ j < 175 * k + 175
  · rw [if_pos q, if_neg (by omega), if_pos (by omega)]
    congr 1
    omega
  · rw [if_neg q]
    by_cases q2 : j < 175 * k
    · rw [if_pos q2, if_pos (by omega)]
    · rw [if_neg q2, if_neg (by omega)]
/-- the past behind a change: P before, S the row before the change -/
def zpast (P S : Nat → Int) (c : Nat) : Nat → Int := va_cpy S (if c = 8 then zsh7 P 7 else P) 0 (175 * (if c = 8 then 7 else c)) 175
theorem zpast_w (P S W : Nat → Int) (c : Nat) : zpast P (va_cpy S W 0 0 175) c = zpast P S c := by
  funext j
  unfold zpast
  show (if _ ∧ _ then va_cpy S W 0 0 175 (0 + (j - _)) else _) = (if _ ∧ _ then S (0 + (j - _)) else _)
  by_cases q : 175 * (if c = 8 then 7 else c) ≤ j ∧ j < 175 * (if c = 8 then 7 else c) + 175
  · rw [if_pos q, if_pos q]
    unfold va_cpy
    rw [if_pos (by omega)]
    congr 1
    omega
  · rw [if_neg q, if_neg q]
/-- what a change of the reference's face leaves -/
def zPm (s t : az_S) (c : Nat) (r : zQ) (w a : Int) : Prop :=
  t 35 = r.2.2.2 ∧ t 34 6 = (if r.1 = 3 then a else zth r.1 w) ∧ (r.1 = 0 → t 34 5 = ((if c = 8 then 8 else c + 1 : Nat) : Int) ∧ t 38 = zpast (s 38) (s 35) c) ∧ (r.1 ≠ 0 → t 34 5 = s 34 5 ∧ t 38 = s 38) ∧
  (r.1 = 3 → t 34 7 = r.2.1 ∧ t 34 8 = r.2.2.1 ∧ t 34 9 = 0) ∧ (r.1 ≠ 3 → t 34 7 = s 34 7 ∧ t 34 8 = s 34 8 ∧ t 34 9 = s 34 9) ∧ (∀ j, j ≠ 5 → j ≠ 6 → j ≠ 7 → j ≠ 8 → j ≠ 9 → t 34 j = s 34 j) ∧ (∀ i, i ≠ 34 → i ≠ 35 → i ≠ 36 → i ≠ 38 → t i = s i)
/-- behind keeps -/
def zKp (s k : az_S) : Prop := k 36 = va_cpy (s 35) (s 36) 0 0 175 ∧ k 34 6 = 0 ∧ (∀ j, j ≠ 6 → k 34 j = s 34 j) ∧ ∀ i, i ≠ 34 → i ≠ 36 → k i = s i
theorem zPm_0 {s k u t : az_S} {c : Nat} {r : zQ} {w a : Int} (hk : zKp s k) (hu : zMo k u r w) (hr : r.1 = 0) (h1 : t 34 5 = ((if c = 8 then 8 else c + 1 : Nat) : Int)) (h2 : t 38 = zpast (u 38) (u 36) c) (h3 : ∀ j, j ≠ 5 → t 34 j = u 34 j) (h4 : ∀ i, i ≠ 34 → i ≠ 38 → t i = u i) : zPm s t c r w a := by
  obtain ⟨k1, k2, k3, k4⟩ := hk
  obtain ⟨u1, u2, u3, u4, u5, u6⟩ := hu
  refine ⟨by rw [h4 35 (by decide) (by decide)]; exact u1, ?_, fun _ => ⟨h1, ?_⟩, fun q => absurd hr q, fun q => absurd (hr.symm.trans q) (by decide), fun q => ?_, fun j j1 j2 j3 j4 j5 => ?_, fun i i1 i2 i3 i4 => ?_⟩
  · rw [h3 6 (by decide), if_neg (by omega)]; exact u2
  · rw [h2, u6 38 (by decide) (by decide), k4 38 (by decide) (by decide), u6 36 (by decide) (by decide), k1, zpast_w]
  · rw [h3 7 (by decide), h3 8 (by decide), h3 9 (by decide), (u4 q).1, (u4 q).2.1, (u4 q).2.2, k3 7 (by decide), k3 8 (by decide), k3 9 (by decide)]
    exact ⟨rfl, rfl, rfl⟩
  · rw [h3 j j1, u5 j j2 j3 j4 j5, k3 j j2]
  · rw [h4 i i1 i4, u6 i i1 i2, k4 i i1 i3]
theorem zPm_x {s k u t : az_S} {c : Nat} {r : zQ} {w a x : Int} (hk : zKp s k) (hu : zMo k u r w) (hr : r.1 ≠ 0) (ht : t = am_up u 34 6 x) (hx : x = (if r.1 = 3 then a else zth r.1 w)) : zPm s t c r w a := by
  obtain ⟨k1, k2, k3, k4⟩ := hk
  obtain ⟨u1, u2, u3, u4, u5, u6⟩ := hu
  have t1 : ∀ i, i ≠ 34 → t i = u i := fun i hi => by rw [ht]; funext j; simp only [am_up, if_neg hi]
  have t2 : ∀ j, j ≠ 6 → t 34 j = u 34 j := fun j hj => by rw [ht]; simp only [am_up, if_true, if_neg hj]
  refine ⟨by rw [t1 35 (by decide)]; exact u1, ?_, fun q => absurd q hr, fun _ => ?_, fun q => ?_, fun q => ?_, fun j j1 j2 j3 j4 j5 => ?_, fun i i1 i2 i3 i4 => ?_⟩
  · rw [ht, ← hx]; rfl
  · rw [t2 5 (by decide), u5 5 (by decide) (by decide) (by decide) (by decide), k3 5 (by decide), t1 38 (by decide), u6 38 (by decide) (by decide), k4 38 (by decide) (by decide)]
    exact ⟨rfl, rfl⟩
  · rw [t2 7 (by decide), t2 8 (by decide), t2 9 (by decide)]; exact u3 q
  · rw [t2 7 (by decide), t2 8 (by decide), t2 9 (by decide), (u4 q).1, (u4 q).2.1, (u4 q).2.2, k3 7 (by decide), k3 8 (by decide), k3 9 (by decide)]
    exact ⟨rfl, rfl, rfl⟩
  · rw [t2 j j2, u5 j j2 j3 j4 j5, k3 j j2]
  · rw [t1 i i1, u6 i i1 i2, k4 i i1 i3]
set_option maxRecDepth 100000 in
set_option maxHeartbeats 800000 in
theorem zs_X10_copies_k_L3 {d : Nat} {s : az_S} (hd : 0 ≤ d)  : ∀ (mq : Nat) (k : Nat) (u : az_S), mq = 175 - k → (k ≤ 175) → (u 36 = va_cpy (s 35) (s 36) 0 0 k) → (∀ i, i ≠ 36 → u i = s i) → az_R d am_m_X10_copies 3 [some (az_r 35), some (az_i (0)), some (az_r 36), some (az_i (0)), some (az_i (((k : Nat) : Int)))] [] (u) (fun o t => o = .inl none ∧ t 36 = va_cpy (s 35) (s 36) 0 0 175 ∧ ∀ i, i ≠ 36 → t i = s i) := by
  intro mq
  induction mq using Nat.strongRecOn with
  | _ mq ih =>
    intro k u hm g0 g1 g2
    refine az_to 2 (pc2 := 8) (lv2 := [some (az_r 35), some (az_i (0)), some (az_r 36), some (az_i (0)), some (az_i (((k : Nat) : Int)))]) (st2 := [az_i (175), az_i (((k : Nat) : Int))]) (s2 := u) rfl ?_
    refine az_if2 29 11 rfl (by decide) (by first | assumption | exact ⟨by omega, by omega⟩) ⟨by decide, by decide⟩ (fun h1 => ?_) (fun h1 => ?_)
    · have h1 : 175 ≤ ((k : Nat) : Int) := h1
      refine az_ret0 rfl rfl ?_
      obtain rfl : k = 175 := by omega
      exact ⟨rfl, g1, g2⟩
    · have h1 : ¬ (175 ≤ ((k : Nat) : Int)) := h1
      refine az_to 8 (pc2 := 21) (lv2 := [some (az_r 35), some (az_i (0)), some (az_r 36), some (az_i (0)), some (az_i (((k : Nat) : Int)))]) (st2 := [az_i ((0 + ((k : Nat) : Int))), az_r 35, az_i ((0 + ((k : Nat) : Int))), az_r 36]) (s2 := u) rfl ?_
      refine az_ld_i 22 rfl rfl (by constructor <;> omega) ⟨by decide, rfl⟩ ?_
      refine az_to 0 (pc2 := 22) (lv2 := [some (az_r 35), some (az_i (0)), some (az_r 36), some (az_i (0)), some (az_i (((k : Nat) : Int)))]) (st2 := [az_i (u 35 (0 + k)), az_i ((0 + ((k : Nat) : Int))), az_r 36]) (s2 := u) rfl ?_
      refine az_st_i 23 rfl rfl (by constructor <;> omega) ⟨by decide, rfl⟩ ?_
      refine az_to 2 (pc2 := 3) (lv2 := [some (az_r 35), some (az_i (0)), some (az_r 36), some (az_i (0)), some (az_i ((((k : Nat) : Int) + 1)))]) (st2 := []) (s2 := am_up u 36 (0 + k) (u 35 (0 + k))) rfl ?_
      have e8 : u 35 (0 + k) = s 35 (0 + k) := by rw [g2 35 (by decide)]
      refine ih _ (by omega) (k + 1) _ rfl (by omega) ?_ (fun i hi => by rw [← g2 i hi]; funext j; simp only [am_up, if_neg hi])
      rw [← va_cpy_s, ← g1, ← e8]
      rfl
set_option maxRecDepth 100000 in
set_option maxHeartbeats 800000 in
theorem zs_X10_copies_k {d : Nat} {s : az_S} (hd : 0 ≤ d)  : az_R d am_m_X10_copies 0 (az_ini (am_mL am_m_X10_copies) [az_r 35, az_i (0), az_r 36, az_i (0)]) [] (s) (fun o t => o = .inl none ∧ t 36 = va_cpy (s 35) (s 36) 0 0 175 ∧ ∀ i, i ≠ 36 → t i = s i) := by
  refine az_to 0 (pc2 := 0) (lv2 := [some (az_r 35), some (az_i (0)), some (az_r 36), some (az_i (0)), none]) (st2 := []) (s2 := s) rfl ?_
  refine az_to 2 (pc2 := 3) (lv2 := [some (az_r 35), some (az_i (0)), some (az_r 36), some (az_i (0)), some (az_i (0))]) (st2 := []) (s2 := s) rfl ?_
  exact zs_X10_copies_k_L3 (by omega) _ 0 s rfl (by omega) (va_cpy_0 _ _ _ _).symm (fun i _ => rfl)
set_option maxRecDepth 100000 in
set_option maxHeartbeats 800000 in
theorem zs_X10_copies_p_L3 {d : Nat} {s : az_S} (hd : 0 ≤ d) {r : Nat} (hq : r ≤ 1225) : ∀ (mq : Nat) (k : Nat) (u : az_S), mq = 175 - k → (k ≤ 175) → (u 38 = va_cpy (s 36) (s 38) 0 r k) → (∀ i, i ≠ 38 → u i = s i) → az_R d am_m_X10_copies 3 [some (az_r 36), some (az_i (0)), some (az_r 38), some (az_i (((r : Nat) : Int))), some (az_i (((k : Nat) : Int)))] [] (u) (fun o t => o = .inl none ∧ t 38 = va_cpy (s 36) (s 38) 0 r 175 ∧ ∀ i, i ≠ 38 → t i = s i) := by
  intro mq
  induction mq using Nat.strongRecOn with
  | _ mq ih =>
    intro k u hm g0 g1 g2
    refine az_to 2 (pc2 := 8) (lv2 := [some (az_r 36), some (az_i (0)), some (az_r 38), some (az_i (((r : Nat) : Int))), some (az_i (((k : Nat) : Int)))]) (st2 := [az_i (175), az_i (((k : Nat) : Int))]) (s2 := u) rfl ?_
    refine az_if2 29 11 rfl (by decide) (by first | assumption | exact ⟨by omega, by omega⟩) ⟨by decide, by decide⟩ (fun h1 => ?_) (fun h1 => ?_)
    · have h1 : 175 ≤ ((k : Nat) : Int) := h1
      refine az_ret0 rfl rfl ?_
      obtain rfl : k = 175 := by omega
      exact ⟨rfl, g1, g2⟩
    · have h1 : ¬ (175 ≤ ((k : Nat) : Int)) := h1
      refine az_to 8 (pc2 := 21) (lv2 := [some (az_r 36), some (az_i (0)), some (az_r 38), some (az_i (((r : Nat) : Int))), some (az_i (((k : Nat) : Int)))]) (st2 := [az_i ((0 + ((k : Nat) : Int))), az_r 36, az_i ((((r : Nat) : Int) + ((k : Nat) : Int))), az_r 38]) (s2 := u) rfl ?_
      refine az_ld_i 22 rfl rfl (by constructor <;> omega) ⟨by decide, rfl⟩ ?_
      refine az_to 0 (pc2 := 22) (lv2 := [some (az_r 36), some (az_i (0)), some (az_r 38), some (az_i (((r : Nat) : Int))), some (az_i (((k : Nat) : Int)))]) (st2 := [az_i (u 36 (0 + k)), az_i ((((r : Nat) : Int) + ((k : Nat) : Int))), az_r 38]) (s2 := u) rfl ?_
      refine az_st_i 23 rfl rfl (by constructor <;> omega) ⟨by decide, rfl⟩ ?_
      refine az_to 2 (pc2 := 3) (lv2 := [some (az_r 36), some (az_i (0)), some (az_r 38), some (az_i (((r : Nat) : Int))), some (az_i ((((k : Nat) : Int) + 1)))]) (st2 := []) (s2 := am_up u 38 (r + k) (u 36 (0 + k))) rfl ?_
      have e8 : u 36 (0 + k) = s 36 (0 + k) := by rw [g2 36 (by decide)]
      refine ih _ (by omega) (k + 1) _ rfl (by omega) ?_ (fun i hi => by rw [← g2 i hi]; funext j; simp only [am_up, if_neg hi])
      rw [← va_cpy_s, ← g1, ← e8]
      rfl
set_option maxRecDepth 100000 in
set_option maxHeartbeats 800000 in
theorem zs_X10_copies_p {d : Nat} {s : az_S} (hd : 0 ≤ d) {r : Nat} (hq : r ≤ 1225) : az_R d am_m_X10_copies 0 (az_ini (am_mL am_m_X10_copies) [az_r 36, az_i (0), az_r 38, az_i (((r : Nat) : Int))]) [] (s) (fun o t => o = .inl none ∧ t 38 = va_cpy (s 36) (s 38) 0 r 175 ∧ ∀ i, i ≠ 38 → t i = s i) := by
  refine az_to 0 (pc2 := 0) (lv2 := [some (az_r 36), some (az_i (0)), some (az_r 38), some (az_i (((r : Nat) : Int))), none]) (st2 := []) (s2 := s) rfl ?_
  refine az_to 2 (pc2 := 3) (lv2 := [some (az_r 36), some (az_i (0)), some (az_r 38), some (az_i (((r : Nat) : Int))), some (az_i (0))]) (st2 := []) (s2 := s) rfl ?_
  exact zs_X10_copies_p_L3 (by omega) hq _ 0 s rfl (by omega) (va_cpy_0 _ _ _ _).symm (fun i _ => rfl)
set_option maxRecDepth 100000 in
set_option maxHeartbeats 800000 in
theorem zs_X10_copies_h_L3 {d : Nat} {s : az_S} (hd : 0 ≤ d) {p : Nat} {r : Nat} (hq : r + 175 ≤ p ∧ p ≤ 1225) : ∀ (mq : Nat) (k : Nat) (u : az_S), mq = 175 - k → (k ≤ 175) → (u 38 = va_cpy (s 38) (s 38) p r k) → (∀ i, i ≠ 38 → u i = s i) → az_R d am_m_X10_copies 3 [some (az_r 38), some (az_i (((p : Nat) : Int))), some (az_r 38), some (az_i (((r : Nat) : Int))), some (az_i (((k : Nat) : Int)))] [] (u) (fun o t => o = .inl none ∧ t 38 = va_cpy (s 38) (s 38) p r 175 ∧ ∀ i, i ≠ 38 → t i = s i) := by
  intro mq
  induction mq using Nat.strongRecOn with
  | _ mq ih =>
    intro k u hm g0 g1 g2
    refine az_to 2 (pc2 := 8) (lv2 := [some (az_r 38), some (az_i (((p : Nat) : Int))), some (az_r 38), some (az_i (((r : Nat) : Int))), some (az_i (((k : Nat) : Int)))]) (st2 := [az_i (175), az_i (((k : Nat) : Int))]) (s2 := u) rfl ?_
    refine az_if2 29 11 rfl (by decide) (by first | assumption | exact ⟨by omega, by omega⟩) ⟨by decide, by decide⟩ (fun h1 => ?_) (fun h1 => ?_)
    · have h1 : 175 ≤ ((k : Nat) : Int) := h1
      refine az_ret0 rfl rfl ?_
      obtain rfl : k = 175 := by omega
      exact ⟨rfl, g1, g2⟩
    · have h1 : ¬ (175 ≤ ((k : Nat) : Int)) := h1
      refine az_to 8 (pc2 := 21) (lv2 := [some (az_r 38), some (az_i (((p : Nat) : Int))), some (az_r 38), some (az_i (((r : Nat) : Int))), some (az_i (((k : Nat) : Int)))]) (st2 := [az_i ((((p : Nat) : Int) + ((k : Nat) : Int))), az_r 38, az_i ((((r : Nat) : Int) + ((k : Nat) : Int))), az_r 38]) (s2 := u) rfl ?_
      refine az_ld_i 22 rfl rfl (by constructor <;> omega) ⟨by decide, rfl⟩ ?_
      refine az_to 0 (pc2 := 22) (lv2 := [some (az_r 38), some (az_i (((p : Nat) : Int))), some (az_r 38), some (az_i (((r : Nat) : Int))), some (az_i (((k : Nat) : Int)))]) (st2 := [az_i (u 38 (p + k)), az_i ((((r : Nat) : Int) + ((k : Nat) : Int))), az_r 38]) (s2 := u) rfl ?_
      refine az_st_i 23 rfl rfl (by constructor <;> omega) ⟨by decide, rfl⟩ ?_
      refine az_to 2 (pc2 := 3) (lv2 := [some (az_r 38), some (az_i (((p : Nat) : Int))), some (az_r 38), some (az_i (((r : Nat) : Int))), some (az_i ((((k : Nat) : Int) + 1)))]) (st2 := []) (s2 := am_up u 38 (r + k) (u 38 (p + k))) rfl ?_
      have e8 : u 38 (p + k) = s 38 (p + k) := by rw [g1]; exact if_neg (by omega)
      refine ih _ (by omega) (k + 1) _ rfl (by omega) ?_ (fun i hi => by rw [← g2 i hi]; funext j; simp only [am_up, if_neg hi])
      rw [← va_cpy_s, ← g1, ← e8]
      rfl
set_option maxRecDepth 100000 in
set_option maxHeartbeats 800000 in
theorem zs_X10_copies_h {d : Nat} {s : az_S} (hd : 0 ≤ d) {p : Nat} {r : Nat} (hq : r + 175 ≤ p ∧ p ≤ 1225) : az_R d am_m_X10_copies 0 (az_ini (am_mL am_m_X10_copies) [az_r 38, az_i (((p : Nat) : Int)), az_r 38, az_i (((r : Nat) : Int))]) [] (s) (fun o t => o = .inl none ∧ t 38 = va_cpy (s 38) (s 38) p r 175 ∧ ∀ i, i ≠ 38 → t i = s i) := by
  refine az_to 0 (pc2 := 0) (lv2 := [some (az_r 38), some (az_i (((p : Nat) : Int))), some (az_r 38), some (az_i (((r : Nat) : Int))), none]) (st2 := []) (s2 := s) rfl ?_
  refine az_to 2 (pc2 := 3) (lv2 := [some (az_r 38), some (az_i (((p : Nat) : Int))), some (az_r 38), some (az_i (((r : Nat) : Int))), some (az_i (0))]) (st2 := []) (s2 := s) rfl ?_
  exact zs_X10_copies_h_L3 (by omega) hq _ 0 s rfl (by omega) (va_cpy_0 _ _ _ _).symm (fun i _ => rfl)
set_option maxRecDepth 100000 in
set_option maxHeartbeats 800000 in
theorem zs_X10_copies_b_L3 {d : Nat} {s : az_S} (hd : 0 ≤ d)  : ∀ (mq : Nat) (k : Nat) (u : az_S), mq = 175 - k → (k ≤ 175) → (u 35 = va_cpy (s 36) (s 35) 0 0 k) → (∀ i, i ≠ 35 → u i = s i) → az_R d am_m_X10_copies 3 [some (az_r 36), some (az_i (0)), some (az_r 35), some (az_i (0)), some (az_i (((k : Nat) : Int)))] [] (u) (fun o t => o = .inl none ∧ t 35 = va_cpy (s 36) (s 35) 0 0 175 ∧ ∀ i, i ≠ 35 → t i = s i) := by
  intro mq
  induction mq using Nat.strongRecOn with
  | _ mq ih =>
    intro k u hm g0 g1 g2
    refine az_to 2 (pc2 := 8) (lv2 := [some (az_r 36), some (az_i (0)), some (az_r 35), some (az_i (0)), some (az_i (((k : Nat) : Int)))]) (st2 := [az_i (175), az_i (((k : Nat) : Int))]) (s2 := u) rfl ?_
    refine az_if2 29 11 rfl (by decide) (by first | assumption | exact ⟨by omega, by omega⟩) ⟨by decide, by decide⟩ (fun h1 => ?_) (fun h1 => ?_)
    · have h1 : 175 ≤ ((k : Nat) : Int) := h1
      refine az_ret0 rfl rfl ?_
      obtain rfl : k = 175 := by omega
      exact ⟨rfl, g1, g2⟩
    · have h1 : ¬ (175 ≤ ((k : Nat) : Int)) := h1
      refine az_to 8 (pc2 := 21) (lv2 := [some (az_r 36), some (az_i (0)), some (az_r 35), some (az_i (0)), some (az_i (((k : Nat) : Int)))]) (st2 := [az_i ((0 + ((k : Nat) : Int))), az_r 36, az_i ((0 + ((k : Nat) : Int))), az_r 35]) (s2 := u) rfl ?_
      refine az_ld_i 22 rfl rfl (by constructor <;> omega) ⟨by decide, rfl⟩ ?_
      refine az_to 0 (pc2 := 22) (lv2 := [some (az_r 36), some (az_i (0)), some (az_r 35), some (az_i (0)), some (az_i (((k : Nat) : Int)))]) (st2 := [az_i (u 36 (0 + k)), az_i ((0 + ((k : Nat) : Int))), az_r 35]) (s2 := u) rfl ?_
      refine az_st_i 23 rfl rfl (by constructor <;> omega) ⟨by decide, rfl⟩ ?_
      refine az_to 2 (pc2 := 3) (lv2 := [some (az_r 36), some (az_i (0)), some (az_r 35), some (az_i (0)), some (az_i ((((k : Nat) : Int) + 1)))]) (st2 := []) (s2 := am_up u 35 (0 + k) (u 36 (0 + k))) rfl ?_
      have e8 : u 36 (0 + k) = s 36 (0 + k) := by rw [g2 36 (by decide)]
      refine ih _ (by omega) (k + 1) _ rfl (by omega) ?_ (fun i hi => by rw [← g2 i hi]; funext j; simp only [am_up, if_neg hi])
      rw [← va_cpy_s, ← g1, ← e8]
      rfl
set_option maxRecDepth 100000 in
set_option maxHeartbeats 800000 in
theorem zs_X10_copies_b {d : Nat} {s : az_S} (hd : 0 ≤ d)  : az_R d am_m_X10_copies 0 (az_ini (am_mL am_m_X10_copies) [az_r 36, az_i (0), az_r 35, az_i (0)]) [] (s) (fun o t => o = .inl none ∧ t 35 = va_cpy (s 36) (s 35) 0 0 175 ∧ ∀ i, i ≠ 35 → t i = s i) := by
  refine az_to 0 (pc2 := 0) (lv2 := [some (az_r 36), some (az_i (0)), some (az_r 35), some (az_i (0)), none]) (st2 := []) (s2 := s) rfl ?_
  refine az_to 2 (pc2 := 3) (lv2 := [some (az_r 36), some (az_i (0)), some (az_r 35), some (az_i (0)), some (az_i (0))]) (st2 := []) (s2 := s) rfl ?_
  exact zs_X10_copies_b_L3 (by omega) _ 0 s rfl (by omega) (va_cpy_0 _ _ _ _).symm (fun i _ => rfl)
set_option maxRecDepth 100000 in
set_option maxHeartbeats 800000 in
theorem zs_X10_copies_u_L3 {d : Nat} {s : az_S} (hd : 0 ≤ d) {p : Nat} (hq : p ≤ 1225) : ∀ (mq : Nat) (k : Nat) (u : az_S), mq = 175 - k → (k ≤ 175) → (u 35 = va_cpy (s 38) (s 35) p 0 k) → (∀ i, i ≠ 35 → u i = s i) → az_R d am_m_X10_copies 3 [some (az_r 38), some (az_i (((p : Nat) : Int))), some (az_r 35), some (az_i (0)), some (az_i (((k : Nat) : Int)))] [] (u) (fun o t => o = .inl none ∧ t 35 = va_cpy (s 38) (s 35) p 0 175 ∧ ∀ i, i ≠ 35 → t i = s i) := by
  intro mq
  induction mq using Nat.strongRecOn with
  | _ mq ih =>
    intro k u hm g0 g1 g2
    refine az_to 2 (pc2 := 8) (lv2 := [some (az_r 38), some (az_i (((p : Nat) : Int))), some (az_r 35), some (az_i (0)), some (az_i (((k : Nat) : Int)))]) (st2 := [az_i (175), az_i (((k : Nat) : Int))]) (s2 := u) rfl ?_
    refine az_if2 29 11 rfl (by decide) (by first | assumption | exact ⟨by omega, by omega⟩) ⟨by decide, by decide⟩ (fun h1 => ?_) (fun h1 => ?_)
    · have h1 : 175 ≤ ((k : Nat) : Int) := h1
      refine az_ret0 rfl rfl ?_
      obtain rfl : k = 175 := by omega
      exact ⟨rfl, g1, g2⟩
    · have h1 : ¬ (175 ≤ ((k : Nat) : Int)) := h1
      refine az_to 8 (pc2 := 21) (lv2 := [some (az_r 38), some (az_i (((p : Nat) : Int))), some (az_r 35), some (az_i (0)), some (az_i (((k : Nat) : Int)))]) (st2 := [az_i ((((p : Nat) : Int) + ((k : Nat) : Int))), az_r 38, az_i ((0 + ((k : Nat) : Int))), az_r 35]) (s2 := u) rfl ?_
      refine az_ld_i 22 rfl rfl (by constructor <;> omega) ⟨by decide, rfl⟩ ?_
      refine az_to 0 (pc2 := 22) (lv2 := [some (az_r 38), some (az_i (((p : Nat) : Int))), some (az_r 35), some (az_i (0)), some (az_i (((k : Nat) : Int)))]) (st2 := [az_i (u 38 (p + k)), az_i ((0 + ((k : Nat) : Int))), az_r 35]) (s2 := u) rfl ?_
      refine az_st_i 23 rfl rfl (by constructor <;> omega) ⟨by decide, rfl⟩ ?_
      refine az_to 2 (pc2 := 3) (lv2 := [some (az_r 38), some (az_i (((p : Nat) : Int))), some (az_r 35), some (az_i (0)), some (az_i ((((k : Nat) : Int) + 1)))]) (st2 := []) (s2 := am_up u 35 (0 + k) (u 38 (p + k))) rfl ?_
      have e8 : u 38 (p + k) = s 38 (p + k) := by rw [g2 38 (by decide)]
      refine ih _ (by omega) (k + 1) _ rfl (by omega) ?_ (fun i hi => by rw [← g2 i hi]; funext j; simp only [am_up, if_neg hi])
      rw [← va_cpy_s, ← g1, ← e8]
      rfl
set_option maxRecDepth 100000 in
set_option maxHeartbeats 800000 in
theorem zs_X10_copies_u {d : Nat} {s : az_S} (hd : 0 ≤ d) {p : Nat} (hq : p ≤ 1225) : az_R d am_m_X10_copies 0 (az_ini (am_mL am_m_X10_copies) [az_r 38, az_i (((p : Nat) : Int)), az_r 35, az_i (0)]) [] (s) (fun o t => o = .inl none ∧ t 35 = va_cpy (s 38) (s 35) p 0 175 ∧ ∀ i, i ≠ 35 → t i = s i) := by
  refine az_to 0 (pc2 := 0) (lv2 := [some (az_r 38), some (az_i (((p : Nat) : Int))), some (az_r 35), some (az_i (0)), none]) (st2 := []) (s2 := s) rfl ?_
  refine az_to 2 (pc2 := 3) (lv2 := [some (az_r 38), some (az_i (((p : Nat) : Int))), some (az_r 35), some (az_i (0)), some (az_i (0))]) (st2 := []) (s2 := s) rfl ?_
  exact zs_X10_copies_u_L3 (by omega) hq _ 0 s rfl (by omega) (va_cpy_0 _ _ _ _).symm (fun i _ => rfl)
set_option maxRecDepth 100000 in
set_option maxHeartbeats 800000 in
theorem zs_X10_copies_s_L3 {d : Nat} {s : az_S} (hd : 0 ≤ d)  : ∀ (mq : Nat) (k : Nat) (u : az_S), mq = 175 - k → (k ≤ 175) → (u 37 = va_cpy (s 35) (s 37) 0 0 k) → (∀ i, i ≠ 37 → u i = s i) → az_R d am_m_X10_copies 3 [some (az_r 35), some (az_i (0)), some (az_r 37), some (az_i (0)), some (az_i (((k : Nat) : Int)))] [] (u) (fun o t => o = .inl none ∧ t 37 = va_cpy (s 35) (s 37) 0 0 175 ∧ ∀ i, i ≠ 37 → t i = s i) := by
  intro mq
  induction mq using Nat.strongRecOn with
  | _ mq ih =>
    intro k u hm g0 g1 g2
    refine az_to 2 (pc2 := 8) (lv2 := [some (az_r 35), some (az_i (0)), some (az_r 37), some (az_i (0)), some (az_i (((k : Nat) : Int)))]) (st2 := [az_i (175), az_i (((k : Nat) : Int))]) (s2 := u) rfl ?_
    refine az_if2 29 11 rfl (by decide) (by first | assumption | exact ⟨by omega, by omega⟩) ⟨by decide, by decide⟩ (fun h1 => ?_) (fun h1 => ?_)
    · have h1 : 175 ≤ ((k : Nat) : Int) := h1
      refine az_ret0 rfl rfl ?_
      obtain rfl : k = 175 := by omega
      exact ⟨rfl, g1, g2⟩
    · have h1 : ¬ (175 ≤ ((k : Nat) : Int)) := h1
      refine az_to 8 (pc2 := 21) (lv2 := [some (az_r 35), some (az_i (0)), some (az_r 37), some (az_i (0)), some (az_i (((k : Nat) : Int)))]) (st2 := [az_i ((0 + ((k : Nat) : Int))), az_r 35, az_i ((0 + ((k : Nat) : Int))), az_r 37]) (s2 := u) rfl ?_
      refine az_ld_i 22 rfl rfl (by constructor <;> omega) ⟨by decide, rfl⟩ ?_
      refine az_to 0 (pc2 := 22) (lv2 := [some (az_r 35), some (az_i (0)), some (az_r 37), some (az_i (0)), some (az_i (((k : Nat) : Int)))]) (st2 := [az_i (u 35 (0 + k)), az_i ((0 + ((k : Nat) : Int))), az_r 37]) (s2 := u) rfl ?_
      refine az_st_i 23 rfl rfl (by constructor <;> omega) ⟨by decide, rfl⟩ ?_
      refine az_to 2 (pc2 := 3) (lv2 := [some (az_r 35), some (az_i (0)), some (az_r 37), some (az_i (0)), some (az_i ((((k : Nat) : Int) + 1)))]) (st2 := []) (s2 := am_up u 37 (0 + k) (u 35 (0 + k))) rfl ?_
      have e8 : u 35 (0 + k) = s 35 (0 + k) := by rw [g2 35 (by decide)]
      refine ih _ (by omega) (k + 1) _ rfl (by omega) ?_ (fun i hi => by rw [← g2 i hi]; funext j; simp only [am_up, if_neg hi])
      rw [← va_cpy_s, ← g1, ← e8]
      rfl
set_option maxRecDepth 100000 in
set_option maxHeartbeats 800000 in
theorem zs_X10_copies_s {d : Nat} {s : az_S} (hd : 0 ≤ d)  : az_R d am_m_X10_copies 0 (az_ini (am_mL am_m_X10_copies) [az_r 35, az_i (0), az_r 37, az_i (0)]) [] (s) (fun o t => o = .inl none ∧ t 37 = va_cpy (s 35) (s 37) 0 0 175 ∧ ∀ i, i ≠ 37 → t i = s i) := by
  refine az_to 0 (pc2 := 0) (lv2 := [some (az_r 35), some (az_i (0)), some (az_r 37), some (az_i (0)), none]) (st2 := []) (s2 := s) rfl ?_
  refine az_to 2 (pc2 := 3) (lv2 := [some (az_r 35), some (az_i (0)), some (az_r 37), some (az_i (0)), some (az_i (0))]) (st2 := []) (s2 := s) rfl ?_
  exact zs_X10_copies_s_L3 (by omega) _ 0 s rfl (by omega) (va_cpy_0 _ _ _ _).symm (fun i _ => rfl)
set_option maxRecDepth 100000 in
set_option maxHeartbeats 800000 in
theorem zs_X10_copies_r_L3 {d : Nat} {s : az_S} (hd : 0 ≤ d)  : ∀ (mq : Nat) (k : Nat) (u : az_S), mq = 175 - k → (k ≤ 175) → (u 35 = va_cpy (s 37) (s 35) 0 0 k) → (∀ i, i ≠ 35 → u i = s i) → az_R d am_m_X10_copies 3 [some (az_r 37), some (az_i (0)), some (az_r 35), some (az_i (0)), some (az_i (((k : Nat) : Int)))] [] (u) (fun o t => o = .inl none ∧ t 35 = va_cpy (s 37) (s 35) 0 0 175 ∧ ∀ i, i ≠ 35 → t i = s i) := by
  intro mq
  induction mq using Nat.strongRecOn with
  | _ mq ih =>
    intro k u hm g0 g1 g2
    refine az_to 2 (pc2 := 8) (lv2 := [some (az_r 37), some (az_i (0)), some (az_r 35), some (az_i (0)), some (az_i (((k : Nat) : Int)))]) (st2 := [az_i (175), az_i (((k : Nat) : Int))]) (s2 := u) rfl ?_
    refine az_if2 29 11 rfl (by decide) (by first | assumption | exact ⟨by omega, by omega⟩) ⟨by decide, by decide⟩ (fun h1 => ?_) (fun h1 => ?_)
    · have h1 : 175 ≤ ((k : Nat) : Int) := h1
      refine az_ret0 rfl rfl ?_
      obtain rfl : k = 175 := by omega
      exact ⟨rfl, g1, g2⟩
    · have h1 : ¬ (175 ≤ ((k : Nat) : Int)) := h1
      refine az_to 8 (pc2 := 21) (lv2 := [some (az_r 37), some (az_i (0)), some (az_r 35), some (az_i (0)), some (az_i (((k : Nat) : Int)))]) (st2 := [az_i ((0 + ((k : Nat) : Int))), az_r 37, az_i ((0 + ((k : Nat) : Int))), az_r 35]) (s2 := u) rfl ?_
      refine az_ld_i 22 rfl rfl (by constructor <;> omega) ⟨by decide, rfl⟩ ?_
      refine az_to 0 (pc2 := 22) (lv2 := [some (az_r 37), some (az_i (0)), some (az_r 35), some (az_i (0)), some (az_i (((k : Nat) : Int)))]) (st2 := [az_i (u 37 (0 + k)), az_i ((0 + ((k : Nat) : Int))), az_r 35]) (s2 := u) rfl ?_
      refine az_st_i 23 rfl rfl (by constructor <;> omega) ⟨by decide, rfl⟩ ?_
      refine az_to 2 (pc2 := 3) (lv2 := [some (az_r 37), some (az_i (0)), some (az_r 35), some (az_i (0)), some (az_i ((((k : Nat) : Int) + 1)))]) (st2 := []) (s2 := am_up u 35 (0 + k) (u 37 (0 + k))) rfl ?_
      have e8 : u 37 (0 + k) = s 37 (0 + k) := by rw [g2 37 (by decide)]
      refine ih _ (by omega) (k + 1) _ rfl (by omega) ?_ (fun i hi => by rw [← g2 i hi]; funext j; simp only [am_up, if_neg hi])
      rw [← va_cpy_s, ← g1, ← e8]
      rfl
set_option maxRecDepth 100000 in
set_option maxHeartbeats 800000 in
theorem zs_X10_copies_r {d : Nat} {s : az_S} (hd : 0 ≤ d)  : az_R d am_m_X10_copies 0 (az_ini (am_mL am_m_X10_copies) [az_r 37, az_i (0), az_r 35, az_i (0)]) [] (s) (fun o t => o = .inl none ∧ t 35 = va_cpy (s 37) (s 35) 0 0 175 ∧ ∀ i, i ≠ 35 → t i = s i) := by
  refine az_to 0 (pc2 := 0) (lv2 := [some (az_r 37), some (az_i (0)), some (az_r 35), some (az_i (0)), none]) (st2 := []) (s2 := s) rfl ?_
  refine az_to 2 (pc2 := 3) (lv2 := [some (az_r 37), some (az_i (0)), some (az_r 35), some (az_i (0)), some (az_i (0))]) (st2 := []) (s2 := s) rfl ?_
  exact zs_X10_copies_r_L3 (by omega) _ 0 s rfl (by omega) (va_cpy_0 _ _ _ _).symm (fun i _ => rfl)
set_option maxRecDepth 100000 in
set_option maxHeartbeats 800000 in
theorem zs_X10_keeps {d : Nat} {s : az_S} (hd : 1 ≤ d)  : az_R d am_m_X10_keeps 0 (az_ini (am_mL am_m_X10_keeps) [az_r 34]) [] (s) (fun o t => o = .inl none ∧ zKp s t) := by
  refine az_to 0 (pc2 := 0) (lv2 := [some (az_r 34)]) (st2 := []) (s2 := s) rfl ?_
  refine az_to 6 (pc2 := 10) (lv2 := [some (az_r 34)]) (st2 := [az_i (0), az_r 36, az_i (0), az_r 35]) (s2 := s) rfl ?_
  refine az_cl (m2 := am_m_X10_copies) (as := [az_r 35, az_i (0), az_r 36, az_i (0)]) (rest := []) 13 rfl rfl ⟨rfl, rfl⟩ (by omega) (zs_X10_copies_k (s := s)  (by omega) ) (fun v1 t1 q1 => ?_) (fun E t1 q1 => by cases q1.1)
  obtain ⟨o1, ff1, gg1⟩ := q1
  cases o1
  refine az_to 0 (pc2 := 13) (lv2 := [some (az_r 34)]) (st2 := []) (s2 := t1) rfl ?_
  refine az_to 3 (pc2 := 18) (lv2 := [some (az_r 34)]) (st2 := []) (s2 := am_up t1 34 6 (0)) rfl ?_
  refine az_ret0 rfl rfl ?_
  exact ⟨rfl, ff1, rfl, fun j hj => by rw [← gg1 34 (by decide)]; simp only [am_up, if_true, if_neg hj], fun i h1 h2 => by rw [← gg1 i h2]; funext j; simp only [am_up, if_neg h1]⟩
set_option maxRecDepth 100000 in
set_option maxHeartbeats 800000 in
theorem zs_X10_changed_f {d : Nat} {s : az_S} (hd : 1 ≤ d) {c : Nat} (hc : s 34 5 = ((c : Nat) : Int)) (hc8 : c < 8) : az_R d am_m_X10_changed 0 (az_ini (am_mL am_m_X10_changed) [az_r 34]) [] (s) (fun o t => o = .inl none ∧ t 34 5 = ((if c = 8 then 8 else c + 1 : Nat) : Int) ∧ t 38 = zpast (s 38) (s 36) c ∧ (∀ j, j ≠ 5 → t 34 j = s 34 j) ∧ ∀ i, i ≠ 34 → i ≠ 38 → t i = s i) := by
  refine az_to 0 (pc2 := 0) (lv2 := [some (az_r 34), none]) (st2 := []) (s2 := s) rfl ?_
  refine az_to 2 (pc2 := 4) (lv2 := [some (az_r 34), none]) (st2 := [az_i (s 34 5)]) (s2 := s) rfl ?_
  refine az_to 0 (pc2 := 4) (lv2 := [some (az_r 34), none]) (st2 := [az_i (((c : Nat) : Int))]) (s2 := s) (by rw [show s 34 5 = ((c : Nat) : Int) from hc]; rfl) ?_
  refine az_to 1 (pc2 := 6) (lv2 := [some (az_r 34), none]) (st2 := [az_i (8), az_i (((c : Nat) : Int))]) (s2 := s) rfl ?_
  refine az_if2 56 9 rfl (by decide) (by first | assumption | exact ⟨by omega, by omega⟩) ⟨by decide, by decide⟩ (fun h1 => ?_) (fun h1 => ?_)
  · have h1 : ¬ ((c : Nat) : Int) = 8 := h1
    refine az_to 8 (pc2 := 72) (lv2 := [some (az_r 34), none]) (st2 := [az_i (s 34 5), az_i (175), az_r 38, az_i (0), az_r 36]) (s2 := s) rfl ?_
    refine az_to 0 (pc2 := 72) (lv2 := [some (az_r 34), none]) (st2 := [az_i (((c : Nat) : Int)), az_i (175), az_r 38, az_i (0), az_r 36]) (s2 := s) (by rw [show s 34 5 = ((c : Nat) : Int) from hc]; rfl) ?_
    refine az_to 1 (pc2 := 73) (lv2 := [some (az_r 34), none]) (st2 := [az_i ((175 * ((c : Nat) : Int))), az_r 38, az_i (0), az_r 36]) (s2 := s) rfl ?_
    refine az_cl (m2 := am_m_X10_copies) (as := [az_r 36, az_i (0), az_r 38, az_i ((175 * ((c : Nat) : Int)))]) (rest := []) 76 rfl rfl ⟨rfl, rfl⟩ (by omega) (zs_X10_copies_p (s := s) (r := (175 * c)) (by omega) (by omega)) (fun v2 t2 q2 => ?_) (fun E t2 q2 => by cases q2.1)
    obtain ⟨o2, ff2, gg2⟩ := q2
    cases o2
    refine az_to 0 (pc2 := 76) (lv2 := [some (az_r 34), none]) (st2 := []) (s2 := t2) rfl ?_
    refine az_to 3 (pc2 := 81) (lv2 := [some (az_r 34), none]) (st2 := [az_i (t2 34 5), az_r 34]) (s2 := t2) rfl ?_
    refine az_to 0 (pc2 := 81) (lv2 := [some (az_r 34), none]) (st2 := [az_i (((c : Nat) : Int)), az_r 34]) (s2 := t2) (by rw [show t2 34 5 = ((c : Nat) : Int) from (by rw [gg2 34 (by decide)]; exact hc)]; rfl) ?_
    refine az_to 3 (pc2 := 86) (lv2 := [some (az_r 34), none]) (st2 := []) (s2 := am_up t2 34 5 ((((c : Nat) : Int) + 1))) rfl ?_
    refine az_ret0 rfl rfl ?_
    refine ⟨rfl, by rw [if_neg (by omega)]; rfl, ?_, fun j0 h5 => ?_, fun i h1 h2 => ?_⟩
    · show t2 38 = _
      rw [ff2]
      unfold zpast
      rw [if_neg (by omega), if_neg (by omega)]
    · simp only [am_up, if_true, if_neg h5]
      rw [gg2 34 (by decide)]
    · rw [← gg2 i h2]
      funext b
      simp only [am_up, if_neg h1]
  · have h1 : ((c : Nat) : Int) = 8 := Decidable.not_not.mp h1
    exact absurd h1 (by omega)
set_option maxRecDepth 100000 in
set_option maxHeartbeats 800000 in
theorem zs_X10_changed_t_L11 {d : Nat} {s : az_S} (hd : 1 ≤ d) (hc : s 34 5 = 8) : ∀ (mq : Nat) (k : Nat) (u : az_S), mq = 7 - k → (k ≤ 7) → (u 38 = zsh7 (s 38) k) → (∀ i, i ≠ 38 → u i = s i) → az_R d am_m_X10_changed 11 [some (az_r 34), some (az_i ((((k + 1) : Nat) : Int)))] [] (u) (fun o t => o = .inl none ∧ t 34 5 = ((if 8 = 8 then 8 else 8 + 1 : Nat) : Int) ∧ t 38 = zpast (s 38) (s 36) 8 ∧ (∀ j, j ≠ 5 → t 34 j = s 34 j) ∧ ∀ i, i ≠ 34 → i ≠ 38 → t i = s i) := by
  intro mq
  induction mq using Nat.strongRecOn with
  | _ mq ih =>
    intro k u hm g0 g1 g2
    refine az_to 2 (pc2 := 14) (lv2 := [some (az_r 34), some (az_i ((((k + 1) : Nat) : Int)))]) (st2 := [az_i (8), az_i ((((k + 1) : Nat) : Int))]) (s2 := u) rfl ?_
    refine az_if2 46 17 rfl (by decide) (by first | assumption | exact ⟨by omega, by omega⟩) ⟨by decide, by decide⟩ (fun h1 => ?_) (fun h1 => ?_)
    · have h1 : 8 ≤ (((k + 1) : Nat) : Int) := h1
      refine az_to 3 (pc2 := 51) (lv2 := [some (az_r 34), some (az_i ((((k + 1) : Nat) : Int)))]) (st2 := [az_i (u 34 5), az_r 34]) (s2 := u) rfl ?_
      refine az_to 0 (pc2 := 51) (lv2 := [some (az_r 34), some (az_i ((((k + 1) : Nat) : Int)))]) (st2 := [az_i (8), az_r 34]) (s2 := u) (by rw [show u 34 5 = 8 from (by rw [g2 34 (by decide)]; exact hc)]; rfl) ?_
      refine az_to 11 (pc2 := 72) (lv2 := [some (az_r 34), some (az_i ((((k + 1) : Nat) : Int)))]) (st2 := [az_i ((am_up u 34 5 (7)) 34 5), az_i (175), az_r 38, az_i (0), az_r 36]) (s2 := am_up u 34 5 (7)) rfl ?_
      refine az_to 0 (pc2 := 72) (lv2 := [some (az_r 34), some (az_i ((((k + 1) : Nat) : Int)))]) (st2 := [az_i (7), az_i (175), az_r 38, az_i (0), az_r 36]) (s2 := am_up u 34 5 (7)) (rfl) ?_
      refine az_to 1 (pc2 := 73) (lv2 := [some (az_r 34), some (az_i ((((k + 1) : Nat) : Int)))]) (st2 := [az_i (1225), az_r 38, az_i (0), az_r 36]) (s2 := am_up u 34 5 (7)) rfl ?_
      refine az_cl (m2 := am_m_X10_copies) (as := [az_r 36, az_i (0), az_r 38, az_i (1225)]) (rest := []) 76 rfl rfl ⟨rfl, rfl⟩ (by omega) (zs_X10_copies_p (s := am_up u 34 5 (7)) (r := 1225) (by omega) (by omega)) (fun v2 t2 q2 => ?_) (fun E t2 q2 => by cases q2.1)
      obtain ⟨o2, ff2, gg2⟩ := q2
      cases o2
      refine az_to 0 (pc2 := 76) (lv2 := [some (az_r 34), some (az_i ((((k + 1) : Nat) : Int)))]) (st2 := []) (s2 := t2) rfl ?_
      refine az_to 3 (pc2 := 81) (lv2 := [some (az_r 34), some (az_i ((((k + 1) : Nat) : Int)))]) (st2 := [az_i (t2 34 5), az_r 34]) (s2 := t2) rfl ?_
      refine az_to 0 (pc2 := 81) (lv2 := [some (az_r 34), some (az_i ((((k + 1) : Nat) : Int)))]) (st2 := [az_i (7), az_r 34]) (s2 := t2) (by rw [show t2 34 5 = 7 from (by rw [gg2 34 (by decide)]; rfl)]; rfl) ?_
      refine az_to 3 (pc2 := 86) (lv2 := [some (az_r 34), some (az_i ((((k + 1) : Nat) : Int)))]) (st2 := []) (s2 := am_up t2 34 5 (8)) rfl ?_
      refine az_ret0 rfl rfl ?_
      refine ⟨rfl, by rw [if_pos rfl]; rfl, ?_, fun j0 h5 => ?_, fun i h1 h2 => ?_⟩
      · show t2 38 = _
        rw [ff2]
        unfold zpast
        rw [if_pos rfl, if_pos rfl]
        show va_cpy (u 36) (u 38) 0 1225 175 = _
        rw [g1, g2 36 (by decide), show k = 7 from by omega]
      · simp only [am_up, if_true, if_neg h5]
        rw [gg2 34 (by decide)]
        simp only [am_up, if_true, if_neg h5]
        rw [g2 34 (by decide)]
      · rw [← g2 i h2]
        funext b
        simp only [am_up, if_neg h1]
        rw [gg2 i h2]
        simp only [am_up, if_neg h1]
    · have h1 : ¬ (8 ≤ (((k + 1) : Nat) : Int)) := h1
      refine az_to 11 (pc2 := 36) (lv2 := [some (az_r 34), some (az_i ((((k + 1) : Nat) : Int)))]) (st2 := [az_i (((((k + 1) : Nat) : Int) - 1)), az_i (175), az_r 38, az_i ((175 * (((k + 1) : Nat) : Int))), az_r 38]) (s2 := u) rfl ?_
      refine az_to 0 (pc2 := 36) (lv2 := [some (az_r 34), some (az_i ((((k + 1) : Nat) : Int)))]) (st2 := [az_i (((k : Nat) : Int)), az_i (175), az_r 38, az_i ((175 * (((k + 1) : Nat) : Int))), az_r 38]) (s2 := u) (by rw [show (((((k + 1) : Nat) : Int) - 1) : Int) = ((k : Nat) : Int) from by omega]; rfl) ?_
      refine az_to 1 (pc2 := 37) (lv2 := [some (az_r 34), some (az_i ((((k + 1) : Nat) : Int)))]) (st2 := [az_i ((175 * ((k : Nat) : Int))), az_r 38, az_i ((175 * (((k + 1) : Nat) : Int))), az_r 38]) (s2 := u) rfl ?_
      refine az_cl (m2 := am_m_X10_copies) (as := [az_r 38, az_i ((175 * (((k + 1) : Nat) : Int))), az_r 38, az_i ((175 * ((k : Nat) : Int)))]) (rest := []) 40 rfl rfl ⟨rfl, rfl⟩ (by omega) (zs_X10_copies_h (s := u) (p := (175 * (k + 1))) (r := (175 * k)) (by omega) (by omega)) (fun v3 t3 q3 => ?_) (fun E t3 q3 => by cases q3.1)
      obtain ⟨o3, ff3, gg3⟩ := q3
      cases o3
      refine az_to 0 (pc2 := 40) (lv2 := [some (az_r 34), some (az_i ((((k + 1) : Nat) : Int)))]) (st2 := []) (s2 := t3) rfl ?_
      refine az_to 2 (pc2 := 11) (lv2 := [some (az_r 34), some (az_i (((((k + 1) : Nat) : Int) + 1)))]) (st2 := []) (s2 := t3) rfl ?_
      refine ih _ (by omega) (k + 1) _ rfl (by omega) ?_ (fun i hi => by rw [gg3 i hi]; exact g2 i hi)
      rw [ff3, g1]
      exact zsh7_s (s 38) k
set_option maxRecDepth 100000 in
set_option maxHeartbeats 800000 in
theorem zs_X10_changed_t {d : Nat} {s : az_S} (hd : 1 ≤ d) (hc : s 34 5 = 8) : az_R d am_m_X10_changed 0 (az_ini (am_mL am_m_X10_changed) [az_r 34]) [] (s) (fun o t => o = .inl none ∧ t 34 5 = ((if 8 = 8 then 8 else 8 + 1 : Nat) : Int) ∧ t 38 = zpast (s 38) (s 36) 8 ∧ (∀ j, j ≠ 5 → t 34 j = s 34 j) ∧ ∀ i, i ≠ 34 → i ≠ 38 → t i = s i) := by
  refine az_to 0 (pc2 := 0) (lv2 := [some (az_r 34), none]) (st2 := []) (s2 := s) rfl ?_
  refine az_to 2 (pc2 := 4) (lv2 := [some (az_r 34), none]) (st2 := [az_i (s 34 5)]) (s2 := s) rfl ?_
  refine az_to 0 (pc2 := 4) (lv2 := [some (az_r 34), none]) (st2 := [az_i (8)]) (s2 := s) (by rw [show s 34 5 = 8 from hc]; rfl) ?_
  refine az_to 1 (pc2 := 6) (lv2 := [some (az_r 34), none]) (st2 := [az_i (8), az_i (8)]) (s2 := s) rfl ?_
  refine az_if2 56 9 rfl (by decide) ⟨by decide, by decide⟩ ⟨by decide, by decide⟩ (fun h => absurd h (by unfold az_cnd; decide)) (fun _ => ?_)
  refine az_to 2 (pc2 := 11) (lv2 := [some (az_r 34), some (az_i (1))]) (st2 := []) (s2 := s) rfl ?_
  exact zs_X10_changed_t_L11 (by omega) hc _ 0 s rfl (by omega) (zsh7_0 _).symm (fun i _ => rfl)
set_option maxRecDepth 100000 in
set_option maxHeartbeats 800000 in
theorem zs_X10_changed {d : Nat} {s : az_S} (hd : 1 ≤ d) {c : Nat} (hc : s 34 5 = ((c : Nat) : Int)) (hc8 : c ≤ 8) : az_R d am_m_X10_changed 0 (az_ini (am_mL am_m_X10_changed) [az_r 34]) [] (s) (fun o t => o = .inl none ∧ t 34 5 = ((if c = 8 then 8 else c + 1 : Nat) : Int) ∧ t 38 = zpast (s 38) (s 36) c ∧ (∀ j, j ≠ 5 → t 34 j = s 34 j) ∧ ∀ i, i ≠ 34 → i ≠ 38 → t i = s i) := by
  by_cases q : c = 8
  · subst q
    exact zs_X10_changed_t hd hc
  · exact zs_X10_changed_f hd hc (by omega)
set_option maxRecDepth 100000 in
set_option maxHeartbeats 800000 in
theorem zs_X10_ends_0 {d : Nat} {s : az_S} (hd : 2 ≤ d) {v as : Int} (hk : s 34 6 = 0) {c : Nat} (hcs : s 34 5 = ((c : Nat) : Int)) (hc8 : c ≤ 8) : az_R d am_m_X10_ends 0 (az_ini (am_mL am_m_X10_ends) [az_r 34, az_i (v), az_i (as)]) [] (s) (fun o t => o = .inl (some (az_i v)) ∧ t 34 5 = ((if c = 8 then 8 else c + 1 : Nat) : Int) ∧ t 38 = zpast (s 38) (s 36) c ∧ (∀ j, j ≠ 5 → t 34 j = s 34 j) ∧ ∀ i, i ≠ 34 → i ≠ 38 → t i = s i) := by
  refine az_to 0 (pc2 := 0) (lv2 := [some (az_r 34), some (az_i (v)), some (az_i (as))]) (st2 := []) (s2 := s) rfl ?_
  refine az_to 2 (pc2 := 4) (lv2 := [some (az_r 34), some (az_i (v)), some (az_i (as))]) (st2 := [az_i (s 34 6)]) (s2 := s) rfl ?_
  refine az_to 0 (pc2 := 4) (lv2 := [some (az_r 34), some (az_i (v)), some (az_i (as))]) (st2 := [az_i (0)]) (s2 := s) (by rw [hk]; rfl) ?_
  refine az_ifc 30 7 rfl (by decide) ⟨by decide, by decide⟩ (fun _ => ?_) (fun h => absurd (show az_cnd _ _ _ by unfold az_cnd; decide) h)
  refine az_to 1 (pc2 := 31) (lv2 := [some (az_r 34), some (az_i (v)), some (az_i (as))]) (st2 := [az_r 34]) (s2 := s) rfl ?_
  refine az_cl (m2 := am_m_X10_changed) (as := [az_r 34]) (rest := []) 34 rfl rfl ⟨rfl, rfl⟩ (by omega) (zs_X10_changed (s := s)  (by omega) hcs hc8) (fun v1 t1 q1 => ?_) (fun E t1 q1 => by cases q1.1)
  obtain ⟨o1, q1⟩ := q1
  cases o1
  refine az_to 0 (pc2 := 34) (lv2 := [some (az_r 34), some (az_i (v)), some (az_i (as))]) (st2 := []) (s2 := t1) rfl ?_
  refine az_to 1 (pc2 := 35) (lv2 := [some (az_r 34), some (az_i (v)), some (az_i (as))]) (st2 := [az_i (v)]) (s2 := t1) rfl ?_
  refine az_retI rfl rfl ?_
  exact ⟨rfl, q1⟩
set_option maxRecDepth 100000 in
set_option maxHeartbeats 800000 in
theorem zs_X10_ends_9 {d : Nat} {s : az_S} (hd : 2 ≤ d) {v as : Int} (hk : s 34 6 = 9) : az_R d am_m_X10_ends 0 (az_ini (am_mL am_m_X10_ends) [az_r 34, az_i (v), az_i (as)]) [] (s) (fun o t => o = .inl (some (az_i 0)) ∧ t = am_up s 34 6 as) := by
  refine az_to 0 (pc2 := 0) (lv2 := [some (az_r 34), some (az_i (v)), some (az_i (as))]) (st2 := []) (s2 := s) rfl ?_
  refine az_to 2 (pc2 := 4) (lv2 := [some (az_r 34), some (az_i (v)), some (az_i (as))]) (st2 := [az_i (s 34 6)]) (s2 := s) rfl ?_
  refine az_to 0 (pc2 := 4) (lv2 := [some (az_r 34), some (az_i (v)), some (az_i (as))]) (st2 := [az_i (9)]) (s2 := s) (by rw [hk]; rfl) ?_
  refine az_ifc 30 7 rfl (by decide) ⟨by decide, by decide⟩ (fun h => absurd h (by unfold az_cnd; decide)) (fun _ => ?_)
  refine az_to 3 (pc2 := 12) (lv2 := [some (az_r 34), some (az_i (v)), some (az_i (as))]) (st2 := [az_i (s 34 6), az_r 34]) (s2 := s) rfl ?_
  refine az_to 0 (pc2 := 12) (lv2 := [some (az_r 34), some (az_i (v)), some (az_i (as))]) (st2 := [az_i (9), az_r 34]) (s2 := s) (by rw [hk]; rfl) ?_
  refine az_to 1 (pc2 := 14) (lv2 := [some (az_r 34), some (az_i (v)), some (az_i (as))]) (st2 := [az_i (9), az_i (9), az_r 34]) (s2 := s) rfl ?_
  refine az_if2 21 17 rfl (by decide) ⟨by decide, by decide⟩ ⟨by decide, by decide⟩ (fun h => absurd h (by unfold az_cnd; decide)) (fun _ => ?_)
  refine az_to 4 (pc2 := 29) (lv2 := [some (az_r 34), some (az_i (v)), some (az_i (as))]) (st2 := [az_i (0)]) (s2 := am_up s 34 6 (as)) rfl ?_
  refine az_retI rfl rfl ?_
  exact ⟨rfl, rfl⟩
set_option maxRecDepth 100000 in
set_option maxHeartbeats 800000 in
theorem zs_X10_ends_1 {d : Nat} {s : az_S} (hd : 2 ≤ d) {v as : Int} (hk : s 34 6 = 1) : az_R d am_m_X10_ends 0 (az_ini (am_mL am_m_X10_ends) [az_r 34, az_i (v), az_i (as)]) [] (s) (fun o t => o = .inl (some (az_i 0)) ∧ t = am_up s 34 6 1) := by
  refine az_to 0 (pc2 := 0) (lv2 := [some (az_r 34), some (az_i (v)), some (az_i (as))]) (st2 := []) (s2 := s) rfl ?_
  refine az_to 2 (pc2 := 4) (lv2 := [some (az_r 34), some (az_i (v)), some (az_i (as))]) (st2 := [az_i (s 34 6)]) (s2 := s) rfl ?_
  refine az_to 0 (pc2 := 4) (lv2 := [some (az_r 34), some (az_i (v)), some (az_i (as))]) (st2 := [az_i (1)]) (s2 := s) (by rw [hk]; rfl) ?_
  refine az_ifc 30 7 rfl (by decide) ⟨by decide, by decide⟩ (fun h => absurd h (by unfold az_cnd; decide)) (fun _ => ?_)
  refine az_to 3 (pc2 := 12) (lv2 := [some (az_r 34), some (az_i (v)), some (az_i (as))]) (st2 := [az_i (s 34 6), az_r 34]) (s2 := s) rfl ?_
  refine az_to 0 (pc2 := 12) (lv2 := [some (az_r 34), some (az_i (v)), some (az_i (as))]) (st2 := [az_i (1), az_r 34]) (s2 := s) (by rw [hk]; rfl) ?_
  refine az_to 1 (pc2 := 14) (lv2 := [some (az_r 34), some (az_i (v)), some (az_i (as))]) (st2 := [az_i (9), az_i (1), az_r 34]) (s2 := s) rfl ?_
  refine az_if2 21 17 rfl (by decide) ⟨by decide, by decide⟩ ⟨by decide, by decide⟩ (fun _ => ?_) (fun h => absurd (show az_cnd _ _ _ by unfold az_cnd; decide) h)
  refine az_to 2 (pc2 := 25) (lv2 := [some (az_r 34), some (az_i (v)), some (az_i (as))]) (st2 := [az_i (s 34 6), az_r 34]) (s2 := s) rfl ?_
  refine az_to 0 (pc2 := 25) (lv2 := [some (az_r 34), some (az_i (v)), some (az_i (as))]) (st2 := [az_i (1), az_r 34]) (s2 := s) (by rw [hk]; rfl) ?_
  refine az_to 2 (pc2 := 29) (lv2 := [some (az_r 34), some (az_i (v)), some (az_i (as))]) (st2 := [az_i (0)]) (s2 := am_up s 34 6 (1)) rfl ?_
  refine az_retI rfl rfl ?_
  exact ⟨rfl, rfl⟩
set_option maxRecDepth 100000 in
set_option maxHeartbeats 800000 in
theorem zs_X10_ends_2 {d : Nat} {s : az_S} (hd : 2 ≤ d) {v as : Int} (hk : s 34 6 = 2) : az_R d am_m_X10_ends 0 (az_ini (am_mL am_m_X10_ends) [az_r 34, az_i (v), az_i (as)]) [] (s) (fun o t => o = .inl (some (az_i 0)) ∧ t = am_up s 34 6 2) := by
  refine az_to 0 (pc2 := 0) (lv2 := [some (az_r 34), some (az_i (v)), some (az_i (as))]) (st2 := []) (s2 := s) rfl ?_
  refine az_to 2 (pc2 := 4) (lv2 := [some (az_r 34), some (az_i (v)), some (az_i (as))]) (st2 := [az_i (s 34 6)]) (s2 := s) rfl ?_
  refine az_to 0 (pc2 := 4) (lv2 := [some (az_r 34), some (az_i (v)), some (az_i (as))]) (st2 := [az_i (2)]) (s2 := s) (by rw [hk]; rfl) ?_
  refine az_ifc 30 7 rfl (by decide) ⟨by decide, by decide⟩ (fun h => absurd h (by unfold az_cnd; decide)) (fun _ => ?_)
  refine az_to 3 (pc2 := 12) (lv2 := [some (az_r 34), some (az_i (v)), some (az_i (as))]) (st2 := [az_i (s 34 6), az_r 34]) (s2 := s) rfl ?_
  refine az_to 0 (pc2 := 12) (lv2 := [some (az_r 34), some (az_i (v)), some (az_i (as))]) (st2 := [az_i (2), az_r 34]) (s2 := s) (by rw [hk]; rfl) ?_
  refine az_to 1 (pc2 := 14) (lv2 := [some (az_r 34), some (az_i (v)), some (az_i (as))]) (st2 := [az_i (9), az_i (2), az_r 34]) (s2 := s) rfl ?_
  refine az_if2 21 17 rfl (by decide) ⟨by decide, by decide⟩ ⟨by decide, by decide⟩ (fun _ => ?_) (fun h => absurd (show az_cnd _ _ _ by unfold az_cnd; decide) h)
  refine az_to 2 (pc2 := 25) (lv2 := [some (az_r 34), some (az_i (v)), some (az_i (as))]) (st2 := [az_i (s 34 6), az_r 34]) (s2 := s) rfl ?_
  refine az_to 0 (pc2 := 25) (lv2 := [some (az_r 34), some (az_i (v)), some (az_i (as))]) (st2 := [az_i (2), az_r 34]) (s2 := s) (by rw [hk]; rfl) ?_
  refine az_to 2 (pc2 := 29) (lv2 := [some (az_r 34), some (az_i (v)), some (az_i (as))]) (st2 := [az_i (0)]) (s2 := am_up s 34 6 (2)) rfl ?_
  refine az_retI rfl rfl ?_
  exact ⟨rfl, rfl⟩
set_option maxRecDepth 100000 in
set_option maxHeartbeats 800000 in
theorem zs_X10_bridge {d : Nat} {s : az_S} (hd : 6 ≤ d) {S : zR} {h : Nat} (hS : s 35 = S) (hI : zInv S h) (hh : h ≤ 10000) (hh9 : h + 1 ≤ 10000) {c : Nat} (hc : s 34 5 = ((c : Nat) : Int)) (hc8 : c ≤ 8) {zo : Int} {zp : Int} {zq : Int} {zr : Int} (h_zo : az_in zo) (h_zp : az_in zp) (h_zq : az_in zq) (h_zr : az_in zr) : az_R d am_m_X10_bridge 0 (az_ini (am_mL am_m_X10_bridge) [az_r 34, az_i (zo), az_i (zp), az_i (zq), az_i (zr)]) [] (s) (fun o t => o = .inl (some (az_i (if (zo_bridge S zo zp zq zr).1 = 0 then (zo_bridge S zo zp zq zr).2.1 else 0))) ∧ zPm s t c (zo_bridge S zo zp zq zr) 2 3) := by
  refine az_to 0 (pc2 := 0) (lv2 := [some (az_r 34), some (az_i (zo)), some (az_i (zp)), some (az_i (zq)), some (az_i (zr))]) (st2 := []) (s2 := s) rfl ?_
  refine az_to 1 (pc2 := 1) (lv2 := [some (az_r 34), some (az_i (zo)), some (az_i (zp)), some (az_i (zq)), some (az_i (zr))]) (st2 := [az_r 34]) (s2 := s) rfl ?_
  refine az_cl (m2 := am_m_X10_keeps) (as := [az_r 34]) (rest := []) 4 rfl rfl ⟨rfl, rfl⟩ (by omega) (zs_X10_keeps (s := s)  (by omega) ) (fun v1 kp q1 => ?_) (fun E kp q1 => by cases q1.1)
  obtain ⟨o1, hkp⟩ := q1
  cases o1
  have hSk : kp 35 = S := by rw [hkp.2.2.2 35 (by decide) (by decide)]; exact hS
  have h0k : kp 34 6 = 0 := hkp.2.1
  refine az_to 0 (pc2 := 4) (lv2 := [some (az_r 34), some (az_i (zo)), some (az_i (zp)), some (az_i (zq)), some (az_i (zr))]) (st2 := []) (s2 := kp) rfl ?_
  refine az_to 6 (pc2 := 11) (lv2 := [some (az_r 34), some (az_i (zo)), some (az_i (zp)), some (az_i (zq)), some (az_i (zr))]) (st2 := [az_i (zr), az_i (zq), az_i (zp), az_i (zo), az_r 34, az_r 34]) (s2 := kp) rfl ?_
  refine az_cl (m2 := am_m_X10_builds) (as := [az_r 34, az_i (zo), az_i (zp), az_i (zq), az_i (zr)]) (rest := [az_r 34]) 14 rfl rfl ⟨rfl, rfl⟩ (by omega) (zs_X10_builds (s := kp) (zo := zo) (zp := zp) (zq := zq) (zr := zr) (by omega) hSk hI hh (by first | assumption | exact ⟨by omega, by omega⟩) (by first | assumption | exact ⟨by omega, by omega⟩) (by first | assumption | exact ⟨by omega, by omega⟩) (by first | assumption | exact ⟨by omega, by omega⟩)) (fun v2 u q2 => ?_) (fun E u q2 => by cases q2.1)
  obtain ⟨o2, hu⟩ := q2
  cases o2
  refine az_to 0 (pc2 := 14) (lv2 := [some (az_r 34), some (az_i (zo)), some (az_i (zp)), some (az_i (zq)), some (az_i (zr))]) (st2 := [az_i ((if (zo_bridge S zo zp zq zr).1 = 0 then (zo_bridge S zo zp zq zr).2.1 else 0)), az_r 34]) (s2 := u) rfl ?_
  refine az_to 1 (pc2 := 15) (lv2 := [some (az_r 34), some (az_i (zo)), some (az_i (zp)), some (az_i (zq)), some (az_i (zr))]) (st2 := [az_i (3), az_i ((if (zo_bridge S zo zp zq zr).1 = 0 then (zo_bridge S zo zp zq zr).2.1 else 0)), az_r 34]) (s2 := u) rfl ?_
  have hr : (zo_bridge S zo zp zq zr).1 = 0 ∨ (zo_bridge S zo zp zq zr).1 = 1 ∨ (zo_bridge S zo zp zq zr).1 = 2 ∨ (zo_bridge S zo zp zq zr).1 = 3 := by unfold zo_bridge; repeat (first | exact Or.inl rfl | exact Or.inr (Or.inl rfl) | exact Or.inr (Or.inr (Or.inl rfl)) | exact Or.inr (Or.inr (Or.inr rfl)) | split)
  rcases hr with hr | hr | hr | hr
  · have hku : u 34 6 = 0 := by rw [hu.2.1, hr]; rfl
    refine az_cl (m2 := am_m_X10_ends) (as := [az_r 34, az_i ((if (zo_bridge S zo zp zq zr).1 = 0 then (zo_bridge S zo zp zq zr).2.1 else 0)), az_i (3)]) (rest := []) 18 rfl rfl ⟨rfl, rfl⟩ (by omega) (zs_X10_ends_0 (s := u) (by omega) hku (c := c) (by rw [hu.2.2.2.2.1 5 (by decide) (by decide) (by decide) (by decide), hkp.2.2.1 5 (by decide)]; exact hc) hc8) (fun v t q9 => ?_) (fun E9 t q9 => by cases q9.1)
    obtain ⟨q8, q1, q2, q3, q4⟩ := q9
    cases q8
    refine az_retI rfl rfl ?_
    exact ⟨rfl, zPm_0 hkp hu hr q1 q2 q3 q4⟩
  · have hku : u 34 6 = 1 := by rw [hu.2.1, hr]; rfl
    refine az_cl (m2 := am_m_X10_ends) (as := [az_r 34, az_i ((if (zo_bridge S zo zp zq zr).1 = 0 then (zo_bridge S zo zp zq zr).2.1 else 0)), az_i (3)]) (rest := []) 18 rfl rfl ⟨rfl, rfl⟩ (by omega) (zs_X10_ends_1 (s := u) (by omega) hku) (fun v t q9 => ?_) (fun E9 t q9 => by cases q9.1)
    obtain ⟨q8, q9⟩ := q9
    cases q8
    refine az_retI rfl rfl ?_
    exact ⟨by rw [if_neg (by omega)], zPm_x hkp hu (by omega) q9 (by rw [hr]; rfl)⟩
  · have hku : u 34 6 = 2 := by rw [hu.2.1, hr]; rfl
    refine az_cl (m2 := am_m_X10_ends) (as := [az_r 34, az_i ((if (zo_bridge S zo zp zq zr).1 = 0 then (zo_bridge S zo zp zq zr).2.1 else 0)), az_i (3)]) (rest := []) 18 rfl rfl ⟨rfl, rfl⟩ (by omega) (zs_X10_ends_2 (s := u) (by omega) hku) (fun v t q9 => ?_) (fun E9 t q9 => by cases q9.1)
    obtain ⟨q8, q9⟩ := q9
    cases q8
    refine az_retI rfl rfl ?_
    exact ⟨by rw [if_neg (by omega)], zPm_x hkp hu (by omega) q9 (by rw [hr]; rfl)⟩
  · have hku : u 34 6 = 9 := by rw [hu.2.1, hr]; rfl
    refine az_cl (m2 := am_m_X10_ends) (as := [az_r 34, az_i ((if (zo_bridge S zo zp zq zr).1 = 0 then (zo_bridge S zo zp zq zr).2.1 else 0)), az_i (3)]) (rest := []) 18 rfl rfl ⟨rfl, rfl⟩ (by omega) (zs_X10_ends_9 (s := u) (by omega) hku) (fun v t q9 => ?_) (fun E9 t q9 => by cases q9.1)
    obtain ⟨q8, q9⟩ := q9
    cases q8
    refine az_retI rfl rfl ?_
    exact ⟨by rw [if_neg (by omega)], zPm_x hkp hu (by omega) q9 (by rw [hr]; rfl)⟩
set_option maxRecDepth 100000 in
set_option maxHeartbeats 800000 in
theorem zs_X10_troll {d : Nat} {s : az_S} (hd : 6 ≤ d) {S : zR} {h : Nat} (hS : s 35 = S) (hI : zInv S h) (hh : h ≤ 10000) (hh9 : h + 1 ≤ 10000) {c : Nat} (hc : s 34 5 = ((c : Nat) : Int)) (hc8 : c ≤ 8)   : az_R d am_m_X10_troll 0 (az_ini (am_mL am_m_X10_troll) [az_r 34]) [] (s) (fun o t => o = .inl (some (az_i (if (zo_troll S ).1 = 0 then (zo_troll S ).2.1 else 0))) ∧ zPm s t c (zo_troll S ) 2 1) := by
  refine az_to 0 (pc2 := 0) (lv2 := [some (az_r 34)]) (st2 := []) (s2 := s) rfl ?_
  refine az_to 1 (pc2 := 1) (lv2 := [some (az_r 34)]) (st2 := [az_r 34]) (s2 := s) rfl ?_
  refine az_cl (m2 := am_m_X10_keeps) (as := [az_r 34]) (rest := []) 4 rfl rfl ⟨rfl, rfl⟩ (by omega) (zs_X10_keeps (s := s)  (by omega) ) (fun v1 kp q1 => ?_) (fun E kp q1 => by cases q1.1)
  obtain ⟨o1, hkp⟩ := q1
  cases o1
  have hSk : kp 35 = S := by rw [hkp.2.2.2 35 (by decide) (by decide)]; exact hS
  have h0k : kp 34 6 = 0 := hkp.2.1
  refine az_to 0 (pc2 := 4) (lv2 := [some (az_r 34)]) (st2 := []) (s2 := kp) rfl ?_
  refine az_to 2 (pc2 := 6) (lv2 := [some (az_r 34)]) (st2 := [az_r 34, az_r 34]) (s2 := kp) rfl ?_
  refine az_cl (m2 := am_m_X10_trolls) (as := [az_r 34]) (rest := [az_r 34]) 9 rfl rfl ⟨rfl, rfl⟩ (by omega) (zs_X10_trolls (s := kp)  (by omega) hSk hI hh h0k) (fun v2 u q2 => ?_) (fun E u q2 => by cases q2.1)
  obtain ⟨o2, hu⟩ := q2
  cases o2
  refine az_to 0 (pc2 := 9) (lv2 := [some (az_r 34)]) (st2 := [az_i ((if (zo_troll S ).1 = 0 then (zo_troll S ).2.1 else 0)), az_r 34]) (s2 := u) rfl ?_
  refine az_to 1 (pc2 := 10) (lv2 := [some (az_r 34)]) (st2 := [az_i (1), az_i ((if (zo_troll S ).1 = 0 then (zo_troll S ).2.1 else 0)), az_r 34]) (s2 := u) rfl ?_
  have hr : (zo_troll S ).1 = 0 ∨ (zo_troll S ).1 = 1 ∨ (zo_troll S ).1 = 2 ∨ (zo_troll S ).1 = 3 := by unfold zo_troll; repeat (first | exact Or.inl rfl | exact Or.inr (Or.inl rfl) | exact Or.inr (Or.inr (Or.inl rfl)) | exact Or.inr (Or.inr (Or.inr rfl)) | split)
  rcases hr with hr | hr | hr | hr
  · have hku : u 34 6 = 0 := by rw [hu.2.1, hr]; rfl
    refine az_cl (m2 := am_m_X10_ends) (as := [az_r 34, az_i ((if (zo_troll S ).1 = 0 then (zo_troll S ).2.1 else 0)), az_i (1)]) (rest := []) 13 rfl rfl ⟨rfl, rfl⟩ (by omega) (zs_X10_ends_0 (s := u) (by omega) hku (c := c) (by rw [hu.2.2.2.2.1 5 (by decide) (by decide) (by decide) (by decide), hkp.2.2.1 5 (by decide)]; exact hc) hc8) (fun v t q9 => ?_) (fun E9 t q9 => by cases q9.1)
    obtain ⟨q8, q1, q2, q3, q4⟩ := q9
    cases q8
    refine az_retI rfl rfl ?_
    exact ⟨rfl, zPm_0 hkp hu hr q1 q2 q3 q4⟩
  · have hku : u 34 6 = 1 := by rw [hu.2.1, hr]; rfl
    refine az_cl (m2 := am_m_X10_ends) (as := [az_r 34, az_i ((if (zo_troll S ).1 = 0 then (zo_troll S ).2.1 else 0)), az_i (1)]) (rest := []) 13 rfl rfl ⟨rfl, rfl⟩ (by omega) (zs_X10_ends_1 (s := u) (by omega) hku) (fun v t q9 => ?_) (fun E9 t q9 => by cases q9.1)
    obtain ⟨q8, q9⟩ := q9
    cases q8
    refine az_retI rfl rfl ?_
    exact ⟨by rw [if_neg (by omega)], zPm_x hkp hu (by omega) q9 (by rw [hr]; rfl)⟩
  · have hku : u 34 6 = 2 := by rw [hu.2.1, hr]; rfl
    refine az_cl (m2 := am_m_X10_ends) (as := [az_r 34, az_i ((if (zo_troll S ).1 = 0 then (zo_troll S ).2.1 else 0)), az_i (1)]) (rest := []) 13 rfl rfl ⟨rfl, rfl⟩ (by omega) (zs_X10_ends_2 (s := u) (by omega) hku) (fun v t q9 => ?_) (fun E9 t q9 => by cases q9.1)
    obtain ⟨q8, q9⟩ := q9
    cases q8
    refine az_retI rfl rfl ?_
    exact ⟨by rw [if_neg (by omega)], zPm_x hkp hu (by omega) q9 (by rw [hr]; rfl)⟩
  · have hku : u 34 6 = 9 := by rw [hu.2.1, hr]; rfl
    refine az_cl (m2 := am_m_X10_ends) (as := [az_r 34, az_i ((if (zo_troll S ).1 = 0 then (zo_troll S ).2.1 else 0)), az_i (1)]) (rest := []) 13 rfl rfl ⟨rfl, rfl⟩ (by omega) (zs_X10_ends_9 (s := u) (by omega) hku) (fun v t q9 => ?_) (fun E9 t q9 => by cases q9.1)
    obtain ⟨q8, q9⟩ := q9
    cases q8
    refine az_retI rfl rfl ?_
    exact ⟨by rw [if_neg (by omega)], zPm_x hkp hu (by omega) q9 (by rw [hr]; rfl)⟩
set_option maxRecDepth 100000 in
set_option maxHeartbeats 800000 in
theorem zs_X10_goat {d : Nat} {s : az_S} (hd : 6 ≤ d) {S : zR} {h : Nat} (hS : s 35 = S) (hI : zInv S h) (hh : h ≤ 10000) (hh9 : h + 1 ≤ 10000) {c : Nat} (hc : s 34 5 = ((c : Nat) : Int)) (hc8 : c ≤ 8) {zl : Int} {zc : Int} (h_zl : az_in zl) (h_zc : az_in zc) : az_R d am_m_X10_goat 0 (az_ini (am_mL am_m_X10_goat) [az_r 34, az_i (zl), az_i (zc)]) [] (s) (fun o t => o = .inl (some (az_i (if (zo_goat S zl zc).1 = 0 then (zo_goat S zl zc).2.1 else 0))) ∧ zPm s t c (zo_goat S zl zc) 2 3) := by
  refine az_to 0 (pc2 := 0) (lv2 := [some (az_r 34), some (az_i (zl)), some (az_i (zc))]) (st2 := []) (s2 := s) rfl ?_
  refine az_to 1 (pc2 := 1) (lv2 := [some (az_r 34), some (az_i (zl)), some (az_i (zc))]) (st2 := [az_r 34]) (s2 := s) rfl ?_
  refine az_cl (m2 := am_m_X10_keeps) (as := [az_r 34]) (rest := []) 4 rfl rfl ⟨rfl, rfl⟩ (by omega) (zs_X10_keeps (s := s)  (by omega) ) (fun v1 kp q1 => ?_) (fun E kp q1 => by cases q1.1)
  obtain ⟨o1, hkp⟩ := q1
  cases o1
  have hSk : kp 35 = S := by rw [hkp.2.2.2 35 (by decide) (by decide)]; exact hS
  have h0k : kp 34 6 = 0 := hkp.2.1
  refine az_to 0 (pc2 := 4) (lv2 := [some (az_r 34), some (az_i (zl)), some (az_i (zc))]) (st2 := []) (s2 := kp) rfl ?_
  refine az_to 4 (pc2 := 8) (lv2 := [some (az_r 34), some (az_i (zl)), some (az_i (zc))]) (st2 := [az_i (zc), az_i (zl), az_r 34, az_r 34]) (s2 := kp) rfl ?_
  refine az_cl (m2 := am_m_X10_goats) (as := [az_r 34, az_i (zl), az_i (zc)]) (rest := [az_r 34]) 11 rfl rfl ⟨rfl, rfl⟩ (by omega) (zs_X10_goats (s := kp) (zl := zl) (zc := zc) (by omega) hSk hI hh (by first | assumption | exact ⟨by omega, by omega⟩) (by first | assumption | exact ⟨by omega, by omega⟩)) (fun v2 u q2 => ?_) (fun E u q2 => by cases q2.1)
  obtain ⟨o2, hu⟩ := q2
  cases o2
  refine az_to 0 (pc2 := 11) (lv2 := [some (az_r 34), some (az_i (zl)), some (az_i (zc))]) (st2 := [az_i ((if (zo_goat S zl zc).1 = 0 then (zo_goat S zl zc).2.1 else 0)), az_r 34]) (s2 := u) rfl ?_
  refine az_to 1 (pc2 := 12) (lv2 := [some (az_r 34), some (az_i (zl)), some (az_i (zc))]) (st2 := [az_i (3), az_i ((if (zo_goat S zl zc).1 = 0 then (zo_goat S zl zc).2.1 else 0)), az_r 34]) (s2 := u) rfl ?_
  have hr : (zo_goat S zl zc).1 = 0 ∨ (zo_goat S zl zc).1 = 1 ∨ (zo_goat S zl zc).1 = 2 ∨ (zo_goat S zl zc).1 = 3 := by unfold zo_goat; repeat (first | exact Or.inl rfl | exact Or.inr (Or.inl rfl) | exact Or.inr (Or.inr (Or.inl rfl)) | exact Or.inr (Or.inr (Or.inr rfl)) | split)
  rcases hr with hr | hr | hr | hr
  · have hku : u 34 6 = 0 := by rw [hu.2.1, hr]; rfl
    refine az_cl (m2 := am_m_X10_ends) (as := [az_r 34, az_i ((if (zo_goat S zl zc).1 = 0 then (zo_goat S zl zc).2.1 else 0)), az_i (3)]) (rest := []) 15 rfl rfl ⟨rfl, rfl⟩ (by omega) (zs_X10_ends_0 (s := u) (by omega) hku (c := c) (by rw [hu.2.2.2.2.1 5 (by decide) (by decide) (by decide) (by decide), hkp.2.2.1 5 (by decide)]; exact hc) hc8) (fun v t q9 => ?_) (fun E9 t q9 => by cases q9.1)
    obtain ⟨q8, q1, q2, q3, q4⟩ := q9
    cases q8
    refine az_retI rfl rfl ?_
    exact ⟨rfl, zPm_0 hkp hu hr q1 q2 q3 q4⟩
  · have hku : u 34 6 = 1 := by rw [hu.2.1, hr]; rfl
    refine az_cl (m2 := am_m_X10_ends) (as := [az_r 34, az_i ((if (zo_goat S zl zc).1 = 0 then (zo_goat S zl zc).2.1 else 0)), az_i (3)]) (rest := []) 15 rfl rfl ⟨rfl, rfl⟩ (by omega) (zs_X10_ends_1 (s := u) (by omega) hku) (fun v t q9 => ?_) (fun E9 t q9 => by cases q9.1)
    obtain ⟨q8, q9⟩ := q9
    cases q8
    refine az_retI rfl rfl ?_
    exact ⟨by rw [if_neg (by omega)], zPm_x hkp hu (by omega) q9 (by rw [hr]; rfl)⟩
  · have hku : u 34 6 = 2 := by rw [hu.2.1, hr]; rfl
    refine az_cl (m2 := am_m_X10_ends) (as := [az_r 34, az_i ((if (zo_goat S zl zc).1 = 0 then (zo_goat S zl zc).2.1 else 0)), az_i (3)]) (rest := []) 15 rfl rfl ⟨rfl, rfl⟩ (by omega) (zs_X10_ends_2 (s := u) (by omega) hku) (fun v t q9 => ?_) (fun E9 t q9 => by cases q9.1)
    obtain ⟨q8, q9⟩ := q9
    cases q8
    refine az_retI rfl rfl ?_
    exact ⟨by rw [if_neg (by omega)], zPm_x hkp hu (by omega) q9 (by rw [hr]; rfl)⟩
  · have hku : u 34 6 = 9 := by rw [hu.2.1, hr]; rfl
    refine az_cl (m2 := am_m_X10_ends) (as := [az_r 34, az_i ((if (zo_goat S zl zc).1 = 0 then (zo_goat S zl zc).2.1 else 0)), az_i (3)]) (rest := []) 15 rfl rfl ⟨rfl, rfl⟩ (by omega) (zs_X10_ends_9 (s := u) (by omega) hku) (fun v t q9 => ?_) (fun E9 t q9 => by cases q9.1)
    obtain ⟨q8, q9⟩ := q9
    cases q8
    refine az_retI rfl rfl ?_
    exact ⟨by rw [if_neg (by omega)], zPm_x hkp hu (by omega) q9 (by rw [hr]; rfl)⟩
set_option maxRecDepth 100000 in
set_option maxHeartbeats 800000 in
theorem zs_X10_post {d : Nat} {s : az_S} (hd : 6 ≤ d) {S : zR} {h : Nat} (hS : s 35 = S) (hI : zInv S h) (hh : h ≤ 10000) (hh9 : h + 1 ≤ 10000) {c : Nat} (hc : s 34 5 = ((c : Nat) : Int)) (hc8 : c ≤ 8) {zt : Int} {zb : Int} (h_zt : az_in zt) (h_zb : az_in zb) : az_R d am_m_X10_post 0 (az_ini (am_mL am_m_X10_post) [az_r 34, az_i (zt), az_i (zb)]) [] (s) (fun o t => o = .inl (some (az_i (if (zo_post S zt zb).1 = 0 then (zo_post S zt zb).2.1 else 0))) ∧ zPm s t c (zo_post S zt zb) 2 2) := by
  refine az_to 0 (pc2 := 0) (lv2 := [some (az_r 34), some (az_i (zt)), some (az_i (zb))]) (st2 := []) (s2 := s) rfl ?_
  refine az_to 1 (pc2 := 1) (lv2 := [some (az_r 34), some (az_i (zt)), some (az_i (zb))]) (st2 := [az_r 34]) (s2 := s) rfl ?_
  refine az_cl (m2 := am_m_X10_keeps) (as := [az_r 34]) (rest := []) 4 rfl rfl ⟨rfl, rfl⟩ (by omega) (zs_X10_keeps (s := s)  (by omega) ) (fun v1 kp q1 => ?_) (fun E kp q1 => by cases q1.1)
  obtain ⟨o1, hkp⟩ := q1
  cases o1
  have hSk : kp 35 = S := by rw [hkp.2.2.2 35 (by decide) (by decide)]; exact hS
  have h0k : kp 34 6 = 0 := hkp.2.1
  refine az_to 0 (pc2 := 4) (lv2 := [some (az_r 34), some (az_i (zt)), some (az_i (zb))]) (st2 := []) (s2 := kp) rfl ?_
  refine az_to 4 (pc2 := 8) (lv2 := [some (az_r 34), some (az_i (zt)), some (az_i (zb))]) (st2 := [az_i (zb), az_i (zt), az_r 34, az_r 34]) (s2 := kp) rfl ?_
  refine az_cl (m2 := am_m_X10_posts) (as := [az_r 34, az_i (zt), az_i (zb)]) (rest := [az_r 34]) 11 rfl rfl ⟨rfl, rfl⟩ (by omega) (zs_X10_posts (s := kp) (zt := zt) (zb := zb) (by omega) hSk hI hh (by first | assumption | exact ⟨by omega, by omega⟩) (by first | assumption | exact ⟨by omega, by omega⟩)) (fun v2 u q2 => ?_) (fun E u q2 => by cases q2.1)
  obtain ⟨o2, hu⟩ := q2
  cases o2
  refine az_to 0 (pc2 := 11) (lv2 := [some (az_r 34), some (az_i (zt)), some (az_i (zb))]) (st2 := [az_i ((if (zo_post S zt zb).1 = 0 then (zo_post S zt zb).2.1 else 0)), az_r 34]) (s2 := u) rfl ?_
  refine az_to 1 (pc2 := 12) (lv2 := [some (az_r 34), some (az_i (zt)), some (az_i (zb))]) (st2 := [az_i (2), az_i ((if (zo_post S zt zb).1 = 0 then (zo_post S zt zb).2.1 else 0)), az_r 34]) (s2 := u) rfl ?_
  have hr : (zo_post S zt zb).1 = 0 ∨ (zo_post S zt zb).1 = 1 ∨ (zo_post S zt zb).1 = 2 ∨ (zo_post S zt zb).1 = 3 := by unfold zo_post; repeat (first | exact Or.inl rfl | exact Or.inr (Or.inl rfl) | exact Or.inr (Or.inr (Or.inl rfl)) | exact Or.inr (Or.inr (Or.inr rfl)) | split)
  rcases hr with hr | hr | hr | hr
  · have hku : u 34 6 = 0 := by rw [hu.2.1, hr]; rfl
    refine az_cl (m2 := am_m_X10_ends) (as := [az_r 34, az_i ((if (zo_post S zt zb).1 = 0 then (zo_post S zt zb).2.1 else 0)), az_i (2)]) (rest := []) 15 rfl rfl ⟨rfl, rfl⟩ (by omega) (zs_X10_ends_0 (s := u) (by omega) hku (c := c) (by rw [hu.2.2.2.2.1 5 (by decide) (by decide) (by decide) (by decide), hkp.2.2.1 5 (by decide)]; exact hc) hc8) (fun v t q9 => ?_) (fun E9 t q9 => by cases q9.1)
    obtain ⟨q8, q1, q2, q3, q4⟩ := q9
    cases q8
    refine az_retI rfl rfl ?_
    exact ⟨rfl, zPm_0 hkp hu hr q1 q2 q3 q4⟩
  · have hku : u 34 6 = 1 := by rw [hu.2.1, hr]; rfl
    refine az_cl (m2 := am_m_X10_ends) (as := [az_r 34, az_i ((if (zo_post S zt zb).1 = 0 then (zo_post S zt zb).2.1 else 0)), az_i (2)]) (rest := []) 15 rfl rfl ⟨rfl, rfl⟩ (by omega) (zs_X10_ends_1 (s := u) (by omega) hku) (fun v t q9 => ?_) (fun E9 t q9 => by cases q9.1)
    obtain ⟨q8, q9⟩ := q9
    cases q8
    refine az_retI rfl rfl ?_
    exact ⟨by rw [if_neg (by omega)], zPm_x hkp hu (by omega) q9 (by rw [hr]; rfl)⟩
  · have hku : u 34 6 = 2 := by rw [hu.2.1, hr]; rfl
    refine az_cl (m2 := am_m_X10_ends) (as := [az_r 34, az_i ((if (zo_post S zt zb).1 = 0 then (zo_post S zt zb).2.1 else 0)), az_i (2)]) (rest := []) 15 rfl rfl ⟨rfl, rfl⟩ (by omega) (zs_X10_ends_2 (s := u) (by omega) hku) (fun v t q9 => ?_) (fun E9 t q9 => by cases q9.1)
    obtain ⟨q8, q9⟩ := q9
    cases q8
    refine az_retI rfl rfl ?_
    exact ⟨by rw [if_neg (by omega)], zPm_x hkp hu (by omega) q9 (by rw [hr]; rfl)⟩
  · have hku : u 34 6 = 9 := by rw [hu.2.1, hr]; rfl
    refine az_cl (m2 := am_m_X10_ends) (as := [az_r 34, az_i ((if (zo_post S zt zb).1 = 0 then (zo_post S zt zb).2.1 else 0)), az_i (2)]) (rest := []) 15 rfl rfl ⟨rfl, rfl⟩ (by omega) (zs_X10_ends_9 (s := u) (by omega) hku) (fun v t q9 => ?_) (fun E9 t q9 => by cases q9.1)
    obtain ⟨q8, q9⟩ := q9
    cases q8
    refine az_retI rfl rfl ?_
    exact ⟨by rw [if_neg (by omega)], zPm_x hkp hu (by omega) q9 (by rw [hr]; rfl)⟩
set_option maxRecDepth 100000 in
set_option maxHeartbeats 800000 in
theorem zs_X10_leave {d : Nat} {s : az_S} (hd : 6 ≤ d) {S : zR} {h : Nat} (hS : s 35 = S) (hI : zInv S h) (hh : h ≤ 10000) (hh9 : h + 1 ≤ 10000) {c : Nat} (hc : s 34 5 = ((c : Nat) : Int)) (hc8 : c ≤ 8) {zt : Int} (h_zt : az_in zt) : az_R d am_m_X10_leave 0 (az_ini (am_mL am_m_X10_leave) [az_r 34, az_i (zt)]) [] (s) (fun o t => o = .inl (some (az_i (if (zo_leave S zt).1 = 0 then (zo_leave S zt).2.1 else 0))) ∧ zPm s t c (zo_leave S zt) 2 2) := by
  refine az_to 0 (pc2 := 0) (lv2 := [some (az_r 34), some (az_i (zt))]) (st2 := []) (s2 := s) rfl ?_
  refine az_to 1 (pc2 := 1) (lv2 := [some (az_r 34), some (az_i (zt))]) (st2 := [az_r 34]) (s2 := s) rfl ?_
  refine az_cl (m2 := am_m_X10_keeps) (as := [az_r 34]) (rest := []) 4 rfl rfl ⟨rfl, rfl⟩ (by omega) (zs_X10_keeps (s := s)  (by omega) ) (fun v1 kp q1 => ?_) (fun E kp q1 => by cases q1.1)
  obtain ⟨o1, hkp⟩ := q1
  cases o1
  have hSk : kp 35 = S := by rw [hkp.2.2.2 35 (by decide) (by decide)]; exact hS
  have h0k : kp 34 6 = 0 := hkp.2.1
  refine az_to 0 (pc2 := 4) (lv2 := [some (az_r 34), some (az_i (zt))]) (st2 := []) (s2 := kp) rfl ?_
  refine az_to 3 (pc2 := 7) (lv2 := [some (az_r 34), some (az_i (zt))]) (st2 := [az_i (zt), az_r 34, az_r 34]) (s2 := kp) rfl ?_
  refine az_cl (m2 := am_m_X10_leaves) (as := [az_r 34, az_i (zt)]) (rest := [az_r 34]) 10 rfl rfl ⟨rfl, rfl⟩ (by omega) (zs_X10_leaves (s := kp) (zt := zt) (by omega) hSk hI hh (by first | assumption | exact ⟨by omega, by omega⟩)) (fun v2 u q2 => ?_) (fun E u q2 => by cases q2.1)
  obtain ⟨o2, hu⟩ := q2
  cases o2
  refine az_to 0 (pc2 := 10) (lv2 := [some (az_r 34), some (az_i (zt))]) (st2 := [az_i ((if (zo_leave S zt).1 = 0 then (zo_leave S zt).2.1 else 0)), az_r 34]) (s2 := u) rfl ?_
  refine az_to 1 (pc2 := 11) (lv2 := [some (az_r 34), some (az_i (zt))]) (st2 := [az_i (2), az_i ((if (zo_leave S zt).1 = 0 then (zo_leave S zt).2.1 else 0)), az_r 34]) (s2 := u) rfl ?_
  have hr : (zo_leave S zt).1 = 0 ∨ (zo_leave S zt).1 = 1 ∨ (zo_leave S zt).1 = 2 ∨ (zo_leave S zt).1 = 3 := by unfold zo_leave; repeat (first | exact Or.inl rfl | exact Or.inr (Or.inl rfl) | exact Or.inr (Or.inr (Or.inl rfl)) | exact Or.inr (Or.inr (Or.inr rfl)) | split)
  rcases hr with hr | hr | hr | hr
  · have hku : u 34 6 = 0 := by rw [hu.2.1, hr]; rfl
    refine az_cl (m2 := am_m_X10_ends) (as := [az_r 34, az_i ((if (zo_leave S zt).1 = 0 then (zo_leave S zt).2.1 else 0)), az_i (2)]) (rest := []) 14 rfl rfl ⟨rfl, rfl⟩ (by omega) (zs_X10_ends_0 (s := u) (by omega) hku (c := c) (by rw [hu.2.2.2.2.1 5 (by decide) (by decide) (by decide) (by decide), hkp.2.2.1 5 (by decide)]; exact hc) hc8) (fun v t q9 => ?_) (fun E9 t q9 => by cases q9.1)
    obtain ⟨q8, q1, q2, q3, q4⟩ := q9
    cases q8
    refine az_retI rfl rfl ?_
    exact ⟨rfl, zPm_0 hkp hu hr q1 q2 q3 q4⟩
  · have hku : u 34 6 = 1 := by rw [hu.2.1, hr]; rfl
    refine az_cl (m2 := am_m_X10_ends) (as := [az_r 34, az_i ((if (zo_leave S zt).1 = 0 then (zo_leave S zt).2.1 else 0)), az_i (2)]) (rest := []) 14 rfl rfl ⟨rfl, rfl⟩ (by omega) (zs_X10_ends_1 (s := u) (by omega) hku) (fun v t q9 => ?_) (fun E9 t q9 => by cases q9.1)
    obtain ⟨q8, q9⟩ := q9
    cases q8
    refine az_retI rfl rfl ?_
    exact ⟨by rw [if_neg (by omega)], zPm_x hkp hu (by omega) q9 (by rw [hr]; rfl)⟩
  · have hku : u 34 6 = 2 := by rw [hu.2.1, hr]; rfl
    refine az_cl (m2 := am_m_X10_ends) (as := [az_r 34, az_i ((if (zo_leave S zt).1 = 0 then (zo_leave S zt).2.1 else 0)), az_i (2)]) (rest := []) 14 rfl rfl ⟨rfl, rfl⟩ (by omega) (zs_X10_ends_2 (s := u) (by omega) hku) (fun v t q9 => ?_) (fun E9 t q9 => by cases q9.1)
    obtain ⟨q8, q9⟩ := q9
    cases q8
    refine az_retI rfl rfl ?_
    exact ⟨by rw [if_neg (by omega)], zPm_x hkp hu (by omega) q9 (by rw [hr]; rfl)⟩
  · have hku : u 34 6 = 9 := by rw [hu.2.1, hr]; rfl
    refine az_cl (m2 := am_m_X10_ends) (as := [az_r 34, az_i ((if (zo_leave S zt).1 = 0 then (zo_leave S zt).2.1 else 0)), az_i (2)]) (rest := []) 14 rfl rfl ⟨rfl, rfl⟩ (by omega) (zs_X10_ends_9 (s := u) (by omega) hku) (fun v t q9 => ?_) (fun E9 t q9 => by cases q9.1)
    obtain ⟨q8, q9⟩ := q9
    cases q8
    refine az_retI rfl rfl ?_
    exact ⟨by rw [if_neg (by omega)], zPm_x hkp hu (by omega) q9 (by rw [hr]; rfl)⟩
set_option maxRecDepth 100000 in
set_option maxHeartbeats 800000 in
theorem zs_X10_riddle {d : Nat} {s : az_S} (hd : 6 ≤ d) {S : zR} {h : Nat} (hS : s 35 = S) (hI : zInv S h) (hh : h ≤ 10000) (hh9 : h + 1 ≤ 10000) {c : Nat} (hc : s 34 5 = ((c : Nat) : Int)) (hc8 : c ≤ 8) {zt : Int} {zd : Int} {zn0 : Int} (h_zt : az_in zt) (h_zd : az_in zd) (h_zn0 : az_in zn0) : az_R d am_m_X10_riddle 0 (az_ini (am_mL am_m_X10_riddle) [az_r 34, az_i (zt), az_i (zd), az_i (zn0)]) [] (s) (fun o t => o = .inl (some (az_i (if (zo_riddle S zt zd zn0).1 = 0 then (zo_riddle S zt zd zn0).2.1 else 0))) ∧ zPm s t c (zo_riddle S zt zd zn0) 2 3) := by
  refine az_to 0 (pc2 := 0) (lv2 := [some (az_r 34), some (az_i (zt)), some (az_i (zd)), some (az_i (zn0))]) (st2 := []) (s2 := s) rfl ?_
  refine az_to 1 (pc2 := 1) (lv2 := [some (az_r 34), some (az_i (zt)), some (az_i (zd)), some (az_i (zn0))]) (st2 := [az_r 34]) (s2 := s) rfl ?_
  refine az_cl (m2 := am_m_X10_keeps) (as := [az_r 34]) (rest := []) 4 rfl rfl ⟨rfl, rfl⟩ (by omega) (zs_X10_keeps (s := s)  (by omega) ) (fun v1 kp q1 => ?_) (fun E kp q1 => by cases q1.1)
  obtain ⟨o1, hkp⟩ := q1
  cases o1
  have hSk : kp 35 = S := by rw [hkp.2.2.2 35 (by decide) (by decide)]; exact hS
  have h0k : kp 34 6 = 0 := hkp.2.1
  refine az_to 0 (pc2 := 4) (lv2 := [some (az_r 34), some (az_i (zt)), some (az_i (zd)), some (az_i (zn0))]) (st2 := []) (s2 := kp) rfl ?_
  refine az_to 5 (pc2 := 9) (lv2 := [some (az_r 34), some (az_i (zt)), some (az_i (zd)), some (az_i (zn0))]) (st2 := [az_i (zn0), az_i (zd), az_i (zt), az_r 34, az_r 34]) (s2 := kp) rfl ?_
  refine az_cl (m2 := am_m_X10_riddles) (as := [az_r 34, az_i (zt), az_i (zd), az_i (zn0)]) (rest := [az_r 34]) 12 rfl rfl ⟨rfl, rfl⟩ (by omega) (zs_X10_riddles (s := kp) (zt := zt) (zd := zd) (zn0 := zn0) (by omega) hSk hI hh (by first | assumption | exact ⟨by omega, by omega⟩) (by first | assumption | exact ⟨by omega, by omega⟩) (by first | assumption | exact ⟨by omega, by omega⟩)) (fun v2 u q2 => ?_) (fun E u q2 => by cases q2.1)
  obtain ⟨o2, hu⟩ := q2
  cases o2
  refine az_to 0 (pc2 := 12) (lv2 := [some (az_r 34), some (az_i (zt)), some (az_i (zd)), some (az_i (zn0))]) (st2 := [az_i ((if (zo_riddle S zt zd zn0).1 = 0 then (zo_riddle S zt zd zn0).2.1 else 0)), az_r 34]) (s2 := u) rfl ?_
  refine az_to 1 (pc2 := 13) (lv2 := [some (az_r 34), some (az_i (zt)), some (az_i (zd)), some (az_i (zn0))]) (st2 := [az_i (3), az_i ((if (zo_riddle S zt zd zn0).1 = 0 then (zo_riddle S zt zd zn0).2.1 else 0)), az_r 34]) (s2 := u) rfl ?_
  have hr : (zo_riddle S zt zd zn0).1 = 0 ∨ (zo_riddle S zt zd zn0).1 = 1 ∨ (zo_riddle S zt zd zn0).1 = 2 ∨ (zo_riddle S zt zd zn0).1 = 3 := by unfold zo_riddle; repeat (first | exact Or.inl rfl | exact Or.inr (Or.inl rfl) | exact Or.inr (Or.inr (Or.inl rfl)) | exact Or.inr (Or.inr (Or.inr rfl)) | split)
  rcases hr with hr | hr | hr | hr
  · have hku : u 34 6 = 0 := by rw [hu.2.1, hr]; rfl
    refine az_cl (m2 := am_m_X10_ends) (as := [az_r 34, az_i ((if (zo_riddle S zt zd zn0).1 = 0 then (zo_riddle S zt zd zn0).2.1 else 0)), az_i (3)]) (rest := []) 16 rfl rfl ⟨rfl, rfl⟩ (by omega) (zs_X10_ends_0 (s := u) (by omega) hku (c := c) (by rw [hu.2.2.2.2.1 5 (by decide) (by decide) (by decide) (by decide), hkp.2.2.1 5 (by decide)]; exact hc) hc8) (fun v t q9 => ?_) (fun E9 t q9 => by cases q9.1)
    obtain ⟨q8, q1, q2, q3, q4⟩ := q9
    cases q8
    refine az_retI rfl rfl ?_
    exact ⟨rfl, zPm_0 hkp hu hr q1 q2 q3 q4⟩
  · have hku : u 34 6 = 1 := by rw [hu.2.1, hr]; rfl
    refine az_cl (m2 := am_m_X10_ends) (as := [az_r 34, az_i ((if (zo_riddle S zt zd zn0).1 = 0 then (zo_riddle S zt zd zn0).2.1 else 0)), az_i (3)]) (rest := []) 16 rfl rfl ⟨rfl, rfl⟩ (by omega) (zs_X10_ends_1 (s := u) (by omega) hku) (fun v t q9 => ?_) (fun E9 t q9 => by cases q9.1)
    obtain ⟨q8, q9⟩ := q9
    cases q8
    refine az_retI rfl rfl ?_
    exact ⟨by rw [if_neg (by omega)], zPm_x hkp hu (by omega) q9 (by rw [hr]; rfl)⟩
  · have hku : u 34 6 = 2 := by rw [hu.2.1, hr]; rfl
    refine az_cl (m2 := am_m_X10_ends) (as := [az_r 34, az_i ((if (zo_riddle S zt zd zn0).1 = 0 then (zo_riddle S zt zd zn0).2.1 else 0)), az_i (3)]) (rest := []) 16 rfl rfl ⟨rfl, rfl⟩ (by omega) (zs_X10_ends_2 (s := u) (by omega) hku) (fun v t q9 => ?_) (fun E9 t q9 => by cases q9.1)
    obtain ⟨q8, q9⟩ := q9
    cases q8
    refine az_retI rfl rfl ?_
    exact ⟨by rw [if_neg (by omega)], zPm_x hkp hu (by omega) q9 (by rw [hr]; rfl)⟩
  · have hku : u 34 6 = 9 := by rw [hu.2.1, hr]; rfl
    refine az_cl (m2 := am_m_X10_ends) (as := [az_r 34, az_i ((if (zo_riddle S zt zd zn0).1 = 0 then (zo_riddle S zt zd zn0).2.1 else 0)), az_i (3)]) (rest := []) 16 rfl rfl ⟨rfl, rfl⟩ (by omega) (zs_X10_ends_9 (s := u) (by omega) hku) (fun v t q9 => ?_) (fun E9 t q9 => by cases q9.1)
    obtain ⟨q8, q9⟩ := q9
    cases q8
    refine az_retI rfl rfl ?_
    exact ⟨by rw [if_neg (by omega)], zPm_x hkp hu (by omega) q9 (by rw [hr]; rfl)⟩
set_option maxRecDepth 100000 in
set_option maxHeartbeats 800000 in
theorem zs_X10_fog {d : Nat} {s : az_S} (hd : 6 ≤ d) {S : zR} {h : Nat} (hS : s 35 = S) (hI : zInv S h) (hh : h ≤ 10000) (hh9 : h + 1 ≤ 10000) {c : Nat} (hc : s 34 5 = ((c : Nat) : Int)) (hc8 : c ≤ 8) {zb : Int} {zn0 : Int} (h_zb : az_in zb) (h_zn0 : az_in zn0) : az_R d am_m_X10_fog 0 (az_ini (am_mL am_m_X10_fog) [az_r 34, az_i (zb), az_i (zn0)]) [] (s) (fun o t => o = .inl (some (az_i (if (zo_fog S zb zn0).1 = 0 then (zo_fog S zb zn0).2.1 else 0))) ∧ zPm s t c (zo_fog S zb zn0) 2 3) := by
  refine az_to 0 (pc2 := 0) (lv2 := [some (az_r 34), some (az_i (zb)), some (az_i (zn0))]) (st2 := []) (s2 := s) rfl ?_
  refine az_to 1 (pc2 := 1) (lv2 := [some (az_r 34), some (az_i (zb)), some (az_i (zn0))]) (st2 := [az_r 34]) (s2 := s) rfl ?_
  refine az_cl (m2 := am_m_X10_keeps) (as := [az_r 34]) (rest := []) 4 rfl rfl ⟨rfl, rfl⟩ (by omega) (zs_X10_keeps (s := s)  (by omega) ) (fun v1 kp q1 => ?_) (fun E kp q1 => by cases q1.1)
  obtain ⟨o1, hkp⟩ := q1
  cases o1
  have hSk : kp 35 = S := by rw [hkp.2.2.2 35 (by decide) (by decide)]; exact hS
  have h0k : kp 34 6 = 0 := hkp.2.1
  refine az_to 0 (pc2 := 4) (lv2 := [some (az_r 34), some (az_i (zb)), some (az_i (zn0))]) (st2 := []) (s2 := kp) rfl ?_
  refine az_to 4 (pc2 := 8) (lv2 := [some (az_r 34), some (az_i (zb)), some (az_i (zn0))]) (st2 := [az_i (zn0), az_i (zb), az_r 34, az_r 34]) (s2 := kp) rfl ?_
  refine az_cl (m2 := am_m_X10_fogs) (as := [az_r 34, az_i (zb), az_i (zn0)]) (rest := [az_r 34]) 11 rfl rfl ⟨rfl, rfl⟩ (by omega) (zs_X10_fogs (s := kp) (zb := zb) (zn0 := zn0) (by omega) hSk hI hh (by first | assumption | exact ⟨by omega, by omega⟩) (by first | assumption | exact ⟨by omega, by omega⟩)) (fun v2 u q2 => ?_) (fun E u q2 => by cases q2.1)
  obtain ⟨o2, hu⟩ := q2
  cases o2
  refine az_to 0 (pc2 := 11) (lv2 := [some (az_r 34), some (az_i (zb)), some (az_i (zn0))]) (st2 := [az_i ((if (zo_fog S zb zn0).1 = 0 then (zo_fog S zb zn0).2.1 else 0)), az_r 34]) (s2 := u) rfl ?_
  refine az_to 1 (pc2 := 12) (lv2 := [some (az_r 34), some (az_i (zb)), some (az_i (zn0))]) (st2 := [az_i (3), az_i ((if (zo_fog S zb zn0).1 = 0 then (zo_fog S zb zn0).2.1 else 0)), az_r 34]) (s2 := u) rfl ?_
  have hr : (zo_fog S zb zn0).1 = 0 ∨ (zo_fog S zb zn0).1 = 1 ∨ (zo_fog S zb zn0).1 = 2 ∨ (zo_fog S zb zn0).1 = 3 := by unfold zo_fog; repeat (first | exact Or.inl rfl | exact Or.inr (Or.inl rfl) | exact Or.inr (Or.inr (Or.inl rfl)) | exact Or.inr (Or.inr (Or.inr rfl)) | split)
  rcases hr with hr | hr | hr | hr
  · have hku : u 34 6 = 0 := by rw [hu.2.1, hr]; rfl
    refine az_cl (m2 := am_m_X10_ends) (as := [az_r 34, az_i ((if (zo_fog S zb zn0).1 = 0 then (zo_fog S zb zn0).2.1 else 0)), az_i (3)]) (rest := []) 15 rfl rfl ⟨rfl, rfl⟩ (by omega) (zs_X10_ends_0 (s := u) (by omega) hku (c := c) (by rw [hu.2.2.2.2.1 5 (by decide) (by decide) (by decide) (by decide), hkp.2.2.1 5 (by decide)]; exact hc) hc8) (fun v t q9 => ?_) (fun E9 t q9 => by cases q9.1)
    obtain ⟨q8, q1, q2, q3, q4⟩ := q9
    cases q8
    refine az_retI rfl rfl ?_
    exact ⟨rfl, zPm_0 hkp hu hr q1 q2 q3 q4⟩
  · have hku : u 34 6 = 1 := by rw [hu.2.1, hr]; rfl
    refine az_cl (m2 := am_m_X10_ends) (as := [az_r 34, az_i ((if (zo_fog S zb zn0).1 = 0 then (zo_fog S zb zn0).2.1 else 0)), az_i (3)]) (rest := []) 15 rfl rfl ⟨rfl, rfl⟩ (by omega) (zs_X10_ends_1 (s := u) (by omega) hku) (fun v t q9 => ?_) (fun E9 t q9 => by cases q9.1)
    obtain ⟨q8, q9⟩ := q9
    cases q8
    refine az_retI rfl rfl ?_
    exact ⟨by rw [if_neg (by omega)], zPm_x hkp hu (by omega) q9 (by rw [hr]; rfl)⟩
  · have hku : u 34 6 = 2 := by rw [hu.2.1, hr]; rfl
    refine az_cl (m2 := am_m_X10_ends) (as := [az_r 34, az_i ((if (zo_fog S zb zn0).1 = 0 then (zo_fog S zb zn0).2.1 else 0)), az_i (3)]) (rest := []) 15 rfl rfl ⟨rfl, rfl⟩ (by omega) (zs_X10_ends_2 (s := u) (by omega) hku) (fun v t q9 => ?_) (fun E9 t q9 => by cases q9.1)
    obtain ⟨q8, q9⟩ := q9
    cases q8
    refine az_retI rfl rfl ?_
    exact ⟨by rw [if_neg (by omega)], zPm_x hkp hu (by omega) q9 (by rw [hr]; rfl)⟩
  · have hku : u 34 6 = 9 := by rw [hu.2.1, hr]; rfl
    refine az_cl (m2 := am_m_X10_ends) (as := [az_r 34, az_i ((if (zo_fog S zb zn0).1 = 0 then (zo_fog S zb zn0).2.1 else 0)), az_i (3)]) (rest := []) 15 rfl rfl ⟨rfl, rfl⟩ (by omega) (zs_X10_ends_9 (s := u) (by omega) hku) (fun v t q9 => ?_) (fun E9 t q9 => by cases q9.1)
    obtain ⟨q8, q9⟩ := q9
    cases q8
    refine az_retI rfl rfl ?_
    exact ⟨by rw [if_neg (by omega)], zPm_x hkp hu (by omega) q9 (by rw [hr]; rfl)⟩
set_option maxRecDepth 100000 in
set_option maxHeartbeats 800000 in
theorem zs_X10_price {d : Nat} {s : az_S} (hd : 6 ≤ d) {S : zR} {h : Nat} (hS : s 35 = S) (hI : zInv S h) (hh : h ≤ 10000) (hh9 : h + 1 ≤ 10000) {c : Nat} (hc : s 34 5 = ((c : Nat) : Int)) (hc8 : c ≤ 8) {zb : Int} {zr : Int} (h_zb : az_in zb) (h_zr : az_in zr) : az_R d am_m_X10_price 0 (az_ini (am_mL am_m_X10_price) [az_r 34, az_i (zb), az_i (zr)]) [] (s) (fun o t => o = .inl (some (az_i (if (zo_price S zb zr).1 = 0 then (zo_price S zb zr).2.1 else 0))) ∧ zPm s t c (zo_price S zb zr) 2 3) := by
  refine az_to 0 (pc2 := 0) (lv2 := [some (az_r 34), some (az_i (zb)), some (az_i (zr))]) (st2 := []) (s2 := s) rfl ?_
  refine az_to 1 (pc2 := 1) (lv2 := [some (az_r 34), some (az_i (zb)), some (az_i (zr))]) (st2 := [az_r 34]) (s2 := s) rfl ?_
  refine az_cl (m2 := am_m_X10_keeps) (as := [az_r 34]) (rest := []) 4 rfl rfl ⟨rfl, rfl⟩ (by omega) (zs_X10_keeps (s := s)  (by omega) ) (fun v1 kp q1 => ?_) (fun E kp q1 => by cases q1.1)
  obtain ⟨o1, hkp⟩ := q1
  cases o1
  have hSk : kp 35 = S := by rw [hkp.2.2.2 35 (by decide) (by decide)]; exact hS
  have h0k : kp 34 6 = 0 := hkp.2.1
  refine az_to 0 (pc2 := 4) (lv2 := [some (az_r 34), some (az_i (zb)), some (az_i (zr))]) (st2 := []) (s2 := kp) rfl ?_
  refine az_to 4 (pc2 := 8) (lv2 := [some (az_r 34), some (az_i (zb)), some (az_i (zr))]) (st2 := [az_i (zr), az_i (zb), az_r 34, az_r 34]) (s2 := kp) rfl ?_
  refine az_cl (m2 := am_m_X10_prices) (as := [az_r 34, az_i (zb), az_i (zr)]) (rest := [az_r 34]) 11 rfl rfl ⟨rfl, rfl⟩ (by omega) (zs_X10_prices (s := kp) (zb := zb) (zr := zr) (by omega) hSk hI hh (by first | assumption | exact ⟨by omega, by omega⟩) (by first | assumption | exact ⟨by omega, by omega⟩)) (fun v2 u q2 => ?_) (fun E u q2 => by cases q2.1)
  obtain ⟨o2, hu⟩ := q2
  cases o2
  refine az_to 0 (pc2 := 11) (lv2 := [some (az_r 34), some (az_i (zb)), some (az_i (zr))]) (st2 := [az_i ((if (zo_price S zb zr).1 = 0 then (zo_price S zb zr).2.1 else 0)), az_r 34]) (s2 := u) rfl ?_
  refine az_to 1 (pc2 := 12) (lv2 := [some (az_r 34), some (az_i (zb)), some (az_i (zr))]) (st2 := [az_i (3), az_i ((if (zo_price S zb zr).1 = 0 then (zo_price S zb zr).2.1 else 0)), az_r 34]) (s2 := u) rfl ?_
  have hr : (zo_price S zb zr).1 = 0 ∨ (zo_price S zb zr).1 = 1 ∨ (zo_price S zb zr).1 = 2 ∨ (zo_price S zb zr).1 = 3 := by unfold zo_price; repeat (first | exact Or.inl rfl | exact Or.inr (Or.inl rfl) | exact Or.inr (Or.inr (Or.inl rfl)) | exact Or.inr (Or.inr (Or.inr rfl)) | split)
  rcases hr with hr | hr | hr | hr
  · have hku : u 34 6 = 0 := by rw [hu.2.1, hr]; rfl
    refine az_cl (m2 := am_m_X10_ends) (as := [az_r 34, az_i ((if (zo_price S zb zr).1 = 0 then (zo_price S zb zr).2.1 else 0)), az_i (3)]) (rest := []) 15 rfl rfl ⟨rfl, rfl⟩ (by omega) (zs_X10_ends_0 (s := u) (by omega) hku (c := c) (by rw [hu.2.2.2.2.1 5 (by decide) (by decide) (by decide) (by decide), hkp.2.2.1 5 (by decide)]; exact hc) hc8) (fun v t q9 => ?_) (fun E9 t q9 => by cases q9.1)
    obtain ⟨q8, q1, q2, q3, q4⟩ := q9
    cases q8
    refine az_retI rfl rfl ?_
    exact ⟨rfl, zPm_0 hkp hu hr q1 q2 q3 q4⟩
  · have hku : u 34 6 = 1 := by rw [hu.2.1, hr]; rfl
    refine az_cl (m2 := am_m_X10_ends) (as := [az_r 34, az_i ((if (zo_price S zb zr).1 = 0 then (zo_price S zb zr).2.1 else 0)), az_i (3)]) (rest := []) 15 rfl rfl ⟨rfl, rfl⟩ (by omega) (zs_X10_ends_1 (s := u) (by omega) hku) (fun v t q9 => ?_) (fun E9 t q9 => by cases q9.1)
    obtain ⟨q8, q9⟩ := q9
    cases q8
    refine az_retI rfl rfl ?_
    exact ⟨by rw [if_neg (by omega)], zPm_x hkp hu (by omega) q9 (by rw [hr]; rfl)⟩
  · have hku : u 34 6 = 2 := by rw [hu.2.1, hr]; rfl
    refine az_cl (m2 := am_m_X10_ends) (as := [az_r 34, az_i ((if (zo_price S zb zr).1 = 0 then (zo_price S zb zr).2.1 else 0)), az_i (3)]) (rest := []) 15 rfl rfl ⟨rfl, rfl⟩ (by omega) (zs_X10_ends_2 (s := u) (by omega) hku) (fun v t q9 => ?_) (fun E9 t q9 => by cases q9.1)
    obtain ⟨q8, q9⟩ := q9
    cases q8
    refine az_retI rfl rfl ?_
    exact ⟨by rw [if_neg (by omega)], zPm_x hkp hu (by omega) q9 (by rw [hr]; rfl)⟩
  · have hku : u 34 6 = 9 := by rw [hu.2.1, hr]; rfl
    refine az_cl (m2 := am_m_X10_ends) (as := [az_r 34, az_i ((if (zo_price S zb zr).1 = 0 then (zo_price S zb zr).2.1 else 0)), az_i (3)]) (rest := []) 15 rfl rfl ⟨rfl, rfl⟩ (by omega) (zs_X10_ends_9 (s := u) (by omega) hku) (fun v t q9 => ?_) (fun E9 t q9 => by cases q9.1)
    obtain ⟨q8, q9⟩ := q9
    cases q8
    refine az_retI rfl rfl ?_
    exact ⟨by rw [if_neg (by omega)], zPm_x hkp hu (by omega) q9 (by rw [hr]; rfl)⟩
set_option maxRecDepth 100000 in
set_option maxHeartbeats 800000 in
theorem zs_X10_cross {d : Nat} {s : az_S} (hd : 6 ≤ d) {S : zR} {h : Nat} (hS : s 35 = S) (hI : zInv S h) (hh : h ≤ 10000) (hh9 : h + 1 ≤ 10000) {c : Nat} (hc : s 34 5 = ((c : Nat) : Int)) (hc8 : c ≤ 8) {zg : Int} {zb : Int} (h_zg : az_in zg) (h_zb : az_in zb) : az_R d am_m_X10_cross 0 (az_ini (am_mL am_m_X10_cross) [az_r 34, az_i (zg), az_i (zb)]) [] (s) (fun o t => o = .inl (some (az_i (if (zo_cross S zg zb).1 = 0 then (zo_cross S zg zb).2.1 else 0))) ∧ zPm s t c (zo_cross S zg zb) 2 2) := by
  refine az_to 0 (pc2 := 0) (lv2 := [some (az_r 34), some (az_i (zg)), some (az_i (zb))]) (st2 := []) (s2 := s) rfl ?_
  refine az_to 1 (pc2 := 1) (lv2 := [some (az_r 34), some (az_i (zg)), some (az_i (zb))]) (st2 := [az_r 34]) (s2 := s) rfl ?_
  refine az_cl (m2 := am_m_X10_keeps) (as := [az_r 34]) (rest := []) 4 rfl rfl ⟨rfl, rfl⟩ (by omega) (zs_X10_keeps (s := s)  (by omega) ) (fun v1 kp q1 => ?_) (fun E kp q1 => by cases q1.1)
  obtain ⟨o1, hkp⟩ := q1
  cases o1
  have hSk : kp 35 = S := by rw [hkp.2.2.2 35 (by decide) (by decide)]; exact hS
  have h0k : kp 34 6 = 0 := hkp.2.1
  refine az_to 0 (pc2 := 4) (lv2 := [some (az_r 34), some (az_i (zg)), some (az_i (zb))]) (st2 := []) (s2 := kp) rfl ?_
  refine az_to 4 (pc2 := 8) (lv2 := [some (az_r 34), some (az_i (zg)), some (az_i (zb))]) (st2 := [az_i (zb), az_i (zg), az_r 34, az_r 34]) (s2 := kp) rfl ?_
  refine az_cl (m2 := am_m_X10_crosses) (as := [az_r 34, az_i (zg), az_i (zb)]) (rest := [az_r 34]) 11 rfl rfl ⟨rfl, rfl⟩ (by omega) (zs_X10_crosses (s := kp) (zg := zg) (zb := zb) (by omega) hSk hI hh (by first | assumption | exact ⟨by omega, by omega⟩) (by first | assumption | exact ⟨by omega, by omega⟩)) (fun v2 u q2 => ?_) (fun E u q2 => by cases q2.1)
  obtain ⟨o2, hu⟩ := q2
  cases o2
  refine az_to 0 (pc2 := 11) (lv2 := [some (az_r 34), some (az_i (zg)), some (az_i (zb))]) (st2 := [az_i ((if (zo_cross S zg zb).1 = 0 then (zo_cross S zg zb).2.1 else 0)), az_r 34]) (s2 := u) rfl ?_
  refine az_to 1 (pc2 := 12) (lv2 := [some (az_r 34), some (az_i (zg)), some (az_i (zb))]) (st2 := [az_i (2), az_i ((if (zo_cross S zg zb).1 = 0 then (zo_cross S zg zb).2.1 else 0)), az_r 34]) (s2 := u) rfl ?_
  have hr : (zo_cross S zg zb).1 = 0 ∨ (zo_cross S zg zb).1 = 1 ∨ (zo_cross S zg zb).1 = 2 ∨ (zo_cross S zg zb).1 = 3 := by unfold zo_cross; repeat (first | exact Or.inl rfl | exact Or.inr (Or.inl rfl) | exact Or.inr (Or.inr (Or.inl rfl)) | exact Or.inr (Or.inr (Or.inr rfl)) | split)
  rcases hr with hr | hr | hr | hr
  · have hku : u 34 6 = 0 := by rw [hu.2.1, hr]; rfl
    refine az_cl (m2 := am_m_X10_ends) (as := [az_r 34, az_i ((if (zo_cross S zg zb).1 = 0 then (zo_cross S zg zb).2.1 else 0)), az_i (2)]) (rest := []) 15 rfl rfl ⟨rfl, rfl⟩ (by omega) (zs_X10_ends_0 (s := u) (by omega) hku (c := c) (by rw [hu.2.2.2.2.1 5 (by decide) (by decide) (by decide) (by decide), hkp.2.2.1 5 (by decide)]; exact hc) hc8) (fun v t q9 => ?_) (fun E9 t q9 => by cases q9.1)
    obtain ⟨q8, q1, q2, q3, q4⟩ := q9
    cases q8
    refine az_retI rfl rfl ?_
    exact ⟨rfl, zPm_0 hkp hu hr q1 q2 q3 q4⟩
  · have hku : u 34 6 = 1 := by rw [hu.2.1, hr]; rfl
    refine az_cl (m2 := am_m_X10_ends) (as := [az_r 34, az_i ((if (zo_cross S zg zb).1 = 0 then (zo_cross S zg zb).2.1 else 0)), az_i (2)]) (rest := []) 15 rfl rfl ⟨rfl, rfl⟩ (by omega) (zs_X10_ends_1 (s := u) (by omega) hku) (fun v t q9 => ?_) (fun E9 t q9 => by cases q9.1)
    obtain ⟨q8, q9⟩ := q9
    cases q8
    refine az_retI rfl rfl ?_
    exact ⟨by rw [if_neg (by omega)], zPm_x hkp hu (by omega) q9 (by rw [hr]; rfl)⟩
  · have hku : u 34 6 = 2 := by rw [hu.2.1, hr]; rfl
    refine az_cl (m2 := am_m_X10_ends) (as := [az_r 34, az_i ((if (zo_cross S zg zb).1 = 0 then (zo_cross S zg zb).2.1 else 0)), az_i (2)]) (rest := []) 15 rfl rfl ⟨rfl, rfl⟩ (by omega) (zs_X10_ends_2 (s := u) (by omega) hku) (fun v t q9 => ?_) (fun E9 t q9 => by cases q9.1)
    obtain ⟨q8, q9⟩ := q9
    cases q8
    refine az_retI rfl rfl ?_
    exact ⟨by rw [if_neg (by omega)], zPm_x hkp hu (by omega) q9 (by rw [hr]; rfl)⟩
  · have hku : u 34 6 = 9 := by rw [hu.2.1, hr]; rfl
    refine az_cl (m2 := am_m_X10_ends) (as := [az_r 34, az_i ((if (zo_cross S zg zb).1 = 0 then (zo_cross S zg zb).2.1 else 0)), az_i (2)]) (rest := []) 15 rfl rfl ⟨rfl, rfl⟩ (by omega) (zs_X10_ends_9 (s := u) (by omega) hku) (fun v t q9 => ?_) (fun E9 t q9 => by cases q9.1)
    obtain ⟨q8, q9⟩ := q9
    cases q8
    refine az_retI rfl rfl ?_
    exact ⟨by rw [if_neg (by omega)], zPm_x hkp hu (by omega) q9 (by rw [hr]; rfl)⟩
set_option maxRecDepth 100000 in
set_option maxHeartbeats 800000 in
theorem zs_X10_dispute {d : Nat} {s : az_S} (hd : 6 ≤ d) {S : zR} {h : Nat} (hS : s 35 = S) (hI : zInv S h) (hh : h ≤ 10000) (hh9 : h + 1 ≤ 10000) {c : Nat} (hc : s 34 5 = ((c : Nat) : Int)) (hc8 : c ≤ 8) {zg : Int} {zb : Int} (h_zg : az_in zg) (h_zb : az_in zb) : az_R d am_m_X10_dispute 0 (az_ini (am_mL am_m_X10_dispute) [az_r 34, az_i (zg), az_i (zb)]) [] (s) (fun o t => o = .inl (some (az_i (if (zo_dispute S zg zb).1 = 0 then (zo_dispute S zg zb).2.1 else 0))) ∧ zPm s t c (zo_dispute S zg zb) 2 2) := by
  refine az_to 0 (pc2 := 0) (lv2 := [some (az_r 34), some (az_i (zg)), some (az_i (zb))]) (st2 := []) (s2 := s) rfl ?_
  refine az_to 1 (pc2 := 1) (lv2 := [some (az_r 34), some (az_i (zg)), some (az_i (zb))]) (st2 := [az_r 34]) (s2 := s) rfl ?_
  refine az_cl (m2 := am_m_X10_keeps) (as := [az_r 34]) (rest := []) 4 rfl rfl ⟨rfl, rfl⟩ (by omega) (zs_X10_keeps (s := s)  (by omega) ) (fun v1 kp q1 => ?_) (fun E kp q1 => by cases q1.1)
  obtain ⟨o1, hkp⟩ := q1
  cases o1
  have hSk : kp 35 = S := by rw [hkp.2.2.2 35 (by decide) (by decide)]; exact hS
  have h0k : kp 34 6 = 0 := hkp.2.1
  refine az_to 0 (pc2 := 4) (lv2 := [some (az_r 34), some (az_i (zg)), some (az_i (zb))]) (st2 := []) (s2 := kp) rfl ?_
  refine az_to 4 (pc2 := 8) (lv2 := [some (az_r 34), some (az_i (zg)), some (az_i (zb))]) (st2 := [az_i (zb), az_i (zg), az_r 34, az_r 34]) (s2 := kp) rfl ?_
  refine az_cl (m2 := am_m_X10_disputesAt) (as := [az_r 34, az_i (zg), az_i (zb)]) (rest := [az_r 34]) 11 rfl rfl ⟨rfl, rfl⟩ (by omega) (zs_X10_disputesAt (s := kp) (zg := zg) (zb := zb) (by omega) hSk hI hh (by first | assumption | exact ⟨by omega, by omega⟩) (by first | assumption | exact ⟨by omega, by omega⟩)) (fun v2 u q2 => ?_) (fun E u q2 => by cases q2.1)
  obtain ⟨o2, hu⟩ := q2
  cases o2
  refine az_to 0 (pc2 := 11) (lv2 := [some (az_r 34), some (az_i (zg)), some (az_i (zb))]) (st2 := [az_i ((if (zo_dispute S zg zb).1 = 0 then (zo_dispute S zg zb).2.1 else 0)), az_r 34]) (s2 := u) rfl ?_
  refine az_to 1 (pc2 := 12) (lv2 := [some (az_r 34), some (az_i (zg)), some (az_i (zb))]) (st2 := [az_i (2), az_i ((if (zo_dispute S zg zb).1 = 0 then (zo_dispute S zg zb).2.1 else 0)), az_r 34]) (s2 := u) rfl ?_
  have hr : (zo_dispute S zg zb).1 = 0 ∨ (zo_dispute S zg zb).1 = 1 ∨ (zo_dispute S zg zb).1 = 2 ∨ (zo_dispute S zg zb).1 = 3 := by unfold zo_dispute; repeat (first | exact Or.inl rfl | exact Or.inr (Or.inl rfl) | exact Or.inr (Or.inr (Or.inl rfl)) | exact Or.inr (Or.inr (Or.inr rfl)) | split)
  rcases hr with hr | hr | hr | hr
  · have hku : u 34 6 = 0 := by rw [hu.2.1, hr]; rfl
    refine az_cl (m2 := am_m_X10_ends) (as := [az_r 34, az_i ((if (zo_dispute S zg zb).1 = 0 then (zo_dispute S zg zb).2.1 else 0)), az_i (2)]) (rest := []) 15 rfl rfl ⟨rfl, rfl⟩ (by omega) (zs_X10_ends_0 (s := u) (by omega) hku (c := c) (by rw [hu.2.2.2.2.1 5 (by decide) (by decide) (by decide) (by decide), hkp.2.2.1 5 (by decide)]; exact hc) hc8) (fun v t q9 => ?_) (fun E9 t q9 => by cases q9.1)
    obtain ⟨q8, q1, q2, q3, q4⟩ := q9
    cases q8
    refine az_retI rfl rfl ?_
    exact ⟨rfl, zPm_0 hkp hu hr q1 q2 q3 q4⟩
  · have hku : u 34 6 = 1 := by rw [hu.2.1, hr]; rfl
    refine az_cl (m2 := am_m_X10_ends) (as := [az_r 34, az_i ((if (zo_dispute S zg zb).1 = 0 then (zo_dispute S zg zb).2.1 else 0)), az_i (2)]) (rest := []) 15 rfl rfl ⟨rfl, rfl⟩ (by omega) (zs_X10_ends_1 (s := u) (by omega) hku) (fun v t q9 => ?_) (fun E9 t q9 => by cases q9.1)
    obtain ⟨q8, q9⟩ := q9
    cases q8
    refine az_retI rfl rfl ?_
    exact ⟨by rw [if_neg (by omega)], zPm_x hkp hu (by omega) q9 (by rw [hr]; rfl)⟩
  · have hku : u 34 6 = 2 := by rw [hu.2.1, hr]; rfl
    refine az_cl (m2 := am_m_X10_ends) (as := [az_r 34, az_i ((if (zo_dispute S zg zb).1 = 0 then (zo_dispute S zg zb).2.1 else 0)), az_i (2)]) (rest := []) 15 rfl rfl ⟨rfl, rfl⟩ (by omega) (zs_X10_ends_2 (s := u) (by omega) hku) (fun v t q9 => ?_) (fun E9 t q9 => by cases q9.1)
    obtain ⟨q8, q9⟩ := q9
    cases q8
    refine az_retI rfl rfl ?_
    exact ⟨by rw [if_neg (by omega)], zPm_x hkp hu (by omega) q9 (by rw [hr]; rfl)⟩
  · have hku : u 34 6 = 9 := by rw [hu.2.1, hr]; rfl
    refine az_cl (m2 := am_m_X10_ends) (as := [az_r 34, az_i ((if (zo_dispute S zg zb).1 = 0 then (zo_dispute S zg zb).2.1 else 0)), az_i (2)]) (rest := []) 15 rfl rfl ⟨rfl, rfl⟩ (by omega) (zs_X10_ends_9 (s := u) (by omega) hku) (fun v t q9 => ?_) (fun E9 t q9 => by cases q9.1)
    obtain ⟨q8, q9⟩ := q9
    cases q8
    refine az_retI rfl rfl ?_
    exact ⟨by rw [if_neg (by omega)], zPm_x hkp hu (by omega) q9 (by rw [hr]; rfl)⟩
set_option maxRecDepth 100000 in
set_option maxHeartbeats 800000 in
theorem zs_X10_settle_1 {d : Nat} {s : az_S} (hd : 6 ≤ d) {S : zR} {h : Nat} (hS : s 35 = S) (hI : zInv S h) (hh : h ≤ 10000) (hh9 : h + 1 ≤ 10000) {c : Nat} (hc : s 34 5 = ((c : Nat) : Int)) (hc8 : c ≤ 8) {zb : Int} (h_zb : az_in zb) : az_R d am_m_X10_settle 0 (az_ini (am_mL am_m_X10_settle) [az_r 34, az_i (zb), az_i (1)]) [] (s) (fun o t => o = .inl (some (az_i (if (zo_settle S zb 1).1 = 0 then (zo_settle S zb 1).2.1 else 0))) ∧ zPm s t c (zo_settle S zb 1) 2 2) := by
  refine az_to 0 (pc2 := 0) (lv2 := [some (az_r 34), some (az_i (zb)), some (az_i (1))]) (st2 := []) (s2 := s) rfl ?_
  refine az_to 1 (pc2 := 1) (lv2 := [some (az_r 34), some (az_i (zb)), some (az_i (1))]) (st2 := [az_r 34]) (s2 := s) rfl ?_
  refine az_cl (m2 := am_m_X10_keeps) (as := [az_r 34]) (rest := []) 4 rfl rfl ⟨rfl, rfl⟩ (by omega) (zs_X10_keeps (s := s)  (by omega) ) (fun v1 kp q1 => ?_) (fun E kp q1 => by cases q1.1)
  obtain ⟨o1, hkp⟩ := q1
  cases o1
  have hSk : kp 35 = S := by rw [hkp.2.2.2 35 (by decide) (by decide)]; exact hS
  have h0k : kp 34 6 = 0 := hkp.2.1
  refine az_to 0 (pc2 := 4) (lv2 := [some (az_r 34), some (az_i (zb)), some (az_i (1))]) (st2 := []) (s2 := kp) rfl ?_
  refine az_to 4 (pc2 := 8) (lv2 := [some (az_r 34), some (az_i (zb)), some (az_i (1))]) (st2 := [az_i (1), az_i (zb), az_r 34, az_r 34]) (s2 := kp) rfl ?_
  refine az_ifc 15 11 rfl (by decide) ⟨by decide, by decide⟩ (fun h => absurd h (by unfold az_cnd; decide)) (fun _ => ?_)
  refine az_to 2 (pc2 := 16) (lv2 := [some (az_r 34), some (az_i (zb)), some (az_i (1))]) (st2 := [az_i (1), az_i (zb), az_r 34, az_r 34]) (s2 := kp) rfl ?_
  refine az_cl (m2 := am_m_X10_settles) (as := [az_r 34, az_i (zb), az_i (1)]) (rest := [az_r 34]) 19 rfl rfl ⟨rfl, rfl⟩ (by omega) (zs_X10_settles_1 (s := kp) (zb := zb) (by omega) hSk hI hh (by first | assumption | exact ⟨by omega, by omega⟩)) (fun v2 u q2 => ?_) (fun E u q2 => by cases q2.1)
  obtain ⟨o2, hu⟩ := q2
  cases o2
  refine az_to 0 (pc2 := 19) (lv2 := [some (az_r 34), some (az_i (zb)), some (az_i (1))]) (st2 := [az_i ((if (zo_settle S zb 1).1 = 0 then (zo_settle S zb 1).2.1 else 0)), az_r 34]) (s2 := u) rfl ?_
  refine az_to 1 (pc2 := 20) (lv2 := [some (az_r 34), some (az_i (zb)), some (az_i (1))]) (st2 := [az_i (2), az_i ((if (zo_settle S zb 1).1 = 0 then (zo_settle S zb 1).2.1 else 0)), az_r 34]) (s2 := u) rfl ?_
  have hr : (zo_settle S zb 1).1 = 0 ∨ (zo_settle S zb 1).1 = 1 ∨ (zo_settle S zb 1).1 = 2 ∨ (zo_settle S zb 1).1 = 3 := by unfold zo_settle; repeat (first | exact Or.inl rfl | exact Or.inr (Or.inl rfl) | exact Or.inr (Or.inr (Or.inl rfl)) | exact Or.inr (Or.inr (Or.inr rfl)) | split)
  rcases hr with hr | hr | hr | hr
  · have hku : u 34 6 = 0 := by rw [hu.2.1, hr]; rfl
    refine az_cl (m2 := am_m_X10_ends) (as := [az_r 34, az_i ((if (zo_settle S zb 1).1 = 0 then (zo_settle S zb 1).2.1 else 0)), az_i (2)]) (rest := []) 23 rfl rfl ⟨rfl, rfl⟩ (by omega) (zs_X10_ends_0 (s := u) (by omega) hku (c := c) (by rw [hu.2.2.2.2.1 5 (by decide) (by decide) (by decide) (by decide), hkp.2.2.1 5 (by decide)]; exact hc) hc8) (fun v t q9 => ?_) (fun E9 t q9 => by cases q9.1)
    obtain ⟨q8, q1, q2, q3, q4⟩ := q9
    cases q8
    refine az_retI rfl rfl ?_
    exact ⟨rfl, zPm_0 hkp hu hr q1 q2 q3 q4⟩
  · have hku : u 34 6 = 1 := by rw [hu.2.1, hr]; rfl
    refine az_cl (m2 := am_m_X10_ends) (as := [az_r 34, az_i ((if (zo_settle S zb 1).1 = 0 then (zo_settle S zb 1).2.1 else 0)), az_i (2)]) (rest := []) 23 rfl rfl ⟨rfl, rfl⟩ (by omega) (zs_X10_ends_1 (s := u) (by omega) hku) (fun v t q9 => ?_) (fun E9 t q9 => by cases q9.1)
    obtain ⟨q8, q9⟩ := q9
    cases q8
    refine az_retI rfl rfl ?_
    exact ⟨by rw [if_neg (by omega)], zPm_x hkp hu (by omega) q9 (by rw [hr]; rfl)⟩
  · have hku : u 34 6 = 2 := by rw [hu.2.1, hr]; rfl
    refine az_cl (m2 := am_m_X10_ends) (as := [az_r 34, az_i ((if (zo_settle S zb 1).1 = 0 then (zo_settle S zb 1).2.1 else 0)), az_i (2)]) (rest := []) 23 rfl rfl ⟨rfl, rfl⟩ (by omega) (zs_X10_ends_2 (s := u) (by omega) hku) (fun v t q9 => ?_) (fun E9 t q9 => by cases q9.1)
    obtain ⟨q8, q9⟩ := q9
    cases q8
    refine az_retI rfl rfl ?_
    exact ⟨by rw [if_neg (by omega)], zPm_x hkp hu (by omega) q9 (by rw [hr]; rfl)⟩
  · have hku : u 34 6 = 9 := by rw [hu.2.1, hr]; rfl
    refine az_cl (m2 := am_m_X10_ends) (as := [az_r 34, az_i ((if (zo_settle S zb 1).1 = 0 then (zo_settle S zb 1).2.1 else 0)), az_i (2)]) (rest := []) 23 rfl rfl ⟨rfl, rfl⟩ (by omega) (zs_X10_ends_9 (s := u) (by omega) hku) (fun v t q9 => ?_) (fun E9 t q9 => by cases q9.1)
    obtain ⟨q8, q9⟩ := q9
    cases q8
    refine az_retI rfl rfl ?_
    exact ⟨by rw [if_neg (by omega)], zPm_x hkp hu (by omega) q9 (by rw [hr]; rfl)⟩
set_option maxRecDepth 100000 in
set_option maxHeartbeats 800000 in
theorem zs_X10_settle_0 {d : Nat} {s : az_S} (hd : 6 ≤ d) {S : zR} {h : Nat} (hS : s 35 = S) (hI : zInv S h) (hh : h ≤ 10000) (hh9 : h + 1 ≤ 10000) {c : Nat} (hc : s 34 5 = ((c : Nat) : Int)) (hc8 : c ≤ 8) {zb : Int} (h_zb : az_in zb) : az_R d am_m_X10_settle 0 (az_ini (am_mL am_m_X10_settle) [az_r 34, az_i (zb), az_i (0)]) [] (s) (fun o t => o = .inl (some (az_i (if (zo_settle S zb 0).1 = 0 then (zo_settle S zb 0).2.1 else 0))) ∧ zPm s t c (zo_settle S zb 0) 2 2) := by
  refine az_to 0 (pc2 := 0) (lv2 := [some (az_r 34), some (az_i (zb)), some (az_i (0))]) (st2 := []) (s2 := s) rfl ?_
  refine az_to 1 (pc2 := 1) (lv2 := [some (az_r 34), some (az_i (zb)), some (az_i (0))]) (st2 := [az_r 34]) (s2 := s) rfl ?_
  refine az_cl (m2 := am_m_X10_keeps) (as := [az_r 34]) (rest := []) 4 rfl rfl ⟨rfl, rfl⟩ (by omega) (zs_X10_keeps (s := s)  (by omega) ) (fun v1 kp q1 => ?_) (fun E kp q1 => by cases q1.1)
  obtain ⟨o1, hkp⟩ := q1
  cases o1
  have hSk : kp 35 = S := by rw [hkp.2.2.2 35 (by decide) (by decide)]; exact hS
  have h0k : kp 34 6 = 0 := hkp.2.1
  refine az_to 0 (pc2 := 4) (lv2 := [some (az_r 34), some (az_i (zb)), some (az_i (0))]) (st2 := []) (s2 := kp) rfl ?_
  refine az_to 4 (pc2 := 8) (lv2 := [some (az_r 34), some (az_i (zb)), some (az_i (0))]) (st2 := [az_i (0), az_i (zb), az_r 34, az_r 34]) (s2 := kp) rfl ?_
  refine az_ifc 15 11 rfl (by decide) ⟨by decide, by decide⟩ (fun _ => ?_) (fun h => absurd (show az_cnd _ _ _ by unfold az_cnd; decide) h)
  refine az_to 1 (pc2 := 16) (lv2 := [some (az_r 34), some (az_i (zb)), some (az_i (0))]) (st2 := [az_i (0), az_i (zb), az_r 34, az_r 34]) (s2 := kp) rfl ?_
  refine az_cl (m2 := am_m_X10_settles) (as := [az_r 34, az_i (zb), az_i (0)]) (rest := [az_r 34]) 19 rfl rfl ⟨rfl, rfl⟩ (by omega) (zs_X10_settles_0 (s := kp) (zb := zb) (by omega) hSk hI hh (by first | assumption | exact ⟨by omega, by omega⟩)) (fun v2 u q2 => ?_) (fun E u q2 => by cases q2.1)
  obtain ⟨o2, hu⟩ := q2
  cases o2
  refine az_to 0 (pc2 := 19) (lv2 := [some (az_r 34), some (az_i (zb)), some (az_i (0))]) (st2 := [az_i ((if (zo_settle S zb 0).1 = 0 then (zo_settle S zb 0).2.1 else 0)), az_r 34]) (s2 := u) rfl ?_
  refine az_to 1 (pc2 := 20) (lv2 := [some (az_r 34), some (az_i (zb)), some (az_i (0))]) (st2 := [az_i (2), az_i ((if (zo_settle S zb 0).1 = 0 then (zo_settle S zb 0).2.1 else 0)), az_r 34]) (s2 := u) rfl ?_
  have hr : (zo_settle S zb 0).1 = 0 ∨ (zo_settle S zb 0).1 = 1 ∨ (zo_settle S zb 0).1 = 2 ∨ (zo_settle S zb 0).1 = 3 := by unfold zo_settle; repeat (first | exact Or.inl rfl | exact Or.inr (Or.inl rfl) | exact Or.inr (Or.inr (Or.inl rfl)) | exact Or.inr (Or.inr (Or.inr rfl)) | split)
  rcases hr with hr | hr | hr | hr
  · have hku : u 34 6 = 0 := by rw [hu.2.1, hr]; rfl
    refine az_cl (m2 := am_m_X10_ends) (as := [az_r 34, az_i ((if (zo_settle S zb 0).1 = 0 then (zo_settle S zb 0).2.1 else 0)), az_i (2)]) (rest := []) 23 rfl rfl ⟨rfl, rfl⟩ (by omega) (zs_X10_ends_0 (s := u) (by omega) hku (c := c) (by rw [hu.2.2.2.2.1 5 (by decide) (by decide) (by decide) (by decide), hkp.2.2.1 5 (by decide)]; exact hc) hc8) (fun v t q9 => ?_) (fun E9 t q9 => by cases q9.1)
    obtain ⟨q8, q1, q2, q3, q4⟩ := q9
    cases q8
    refine az_retI rfl rfl ?_
    exact ⟨rfl, zPm_0 hkp hu hr q1 q2 q3 q4⟩
  · have hku : u 34 6 = 1 := by rw [hu.2.1, hr]; rfl
    refine az_cl (m2 := am_m_X10_ends) (as := [az_r 34, az_i ((if (zo_settle S zb 0).1 = 0 then (zo_settle S zb 0).2.1 else 0)), az_i (2)]) (rest := []) 23 rfl rfl ⟨rfl, rfl⟩ (by omega) (zs_X10_ends_1 (s := u) (by omega) hku) (fun v t q9 => ?_) (fun E9 t q9 => by cases q9.1)
    obtain ⟨q8, q9⟩ := q9
    cases q8
    refine az_retI rfl rfl ?_
    exact ⟨by rw [if_neg (by omega)], zPm_x hkp hu (by omega) q9 (by rw [hr]; rfl)⟩
  · have hku : u 34 6 = 2 := by rw [hu.2.1, hr]; rfl
    refine az_cl (m2 := am_m_X10_ends) (as := [az_r 34, az_i ((if (zo_settle S zb 0).1 = 0 then (zo_settle S zb 0).2.1 else 0)), az_i (2)]) (rest := []) 23 rfl rfl ⟨rfl, rfl⟩ (by omega) (zs_X10_ends_2 (s := u) (by omega) hku) (fun v t q9 => ?_) (fun E9 t q9 => by cases q9.1)
    obtain ⟨q8, q9⟩ := q9
    cases q8
    refine az_retI rfl rfl ?_
    exact ⟨by rw [if_neg (by omega)], zPm_x hkp hu (by omega) q9 (by rw [hr]; rfl)⟩
  · have hku : u 34 6 = 9 := by rw [hu.2.1, hr]; rfl
    refine az_cl (m2 := am_m_X10_ends) (as := [az_r 34, az_i ((if (zo_settle S zb 0).1 = 0 then (zo_settle S zb 0).2.1 else 0)), az_i (2)]) (rest := []) 23 rfl rfl ⟨rfl, rfl⟩ (by omega) (zs_X10_ends_9 (s := u) (by omega) hku) (fun v t q9 => ?_) (fun E9 t q9 => by cases q9.1)
    obtain ⟨q8, q9⟩ := q9
    cases q8
    refine az_retI rfl rfl ?_
    exact ⟨by rw [if_neg (by omega)], zPm_x hkp hu (by omega) q9 (by rw [hr]; rfl)⟩
set_option maxRecDepth 100000 in
set_option maxHeartbeats 800000 in
theorem zs_X10_strike_1 {d : Nat} {s : az_S} (hd : 6 ≤ d) {S : zR} {h : Nat} (hS : s 35 = S) (hI : zInv S h) (hh : h ≤ 10000) (hh9 : h + 1 ≤ 10000) {c : Nat} (hc : s 34 5 = ((c : Nat) : Int)) (hc8 : c ≤ 8) {zg : Int} (h_zg : az_in zg) : az_R d am_m_X10_strike 0 (az_ini (am_mL am_m_X10_strike) [az_r 34, az_i (zg), az_i (1)]) [] (s) (fun o t => o = .inl (some (az_i (if (zo_strike S zg 1).1 = 0 then (zo_strike S zg 1).2.1 else 0))) ∧ zPm s t c (zo_strike S zg 1) 2 2) := by
  refine az_to 0 (pc2 := 0) (lv2 := [some (az_r 34), some (az_i (zg)), some (az_i (1))]) (st2 := []) (s2 := s) rfl ?_
  refine az_to 1 (pc2 := 1) (lv2 := [some (az_r 34), some (az_i (zg)), some (az_i (1))]) (st2 := [az_r 34]) (s2 := s) rfl ?_
  refine az_cl (m2 := am_m_X10_keeps) (as := [az_r 34]) (rest := []) 4 rfl rfl ⟨rfl, rfl⟩ (by omega) (zs_X10_keeps (s := s)  (by omega) ) (fun v1 kp q1 => ?_) (fun E kp q1 => by cases q1.1)
  obtain ⟨o1, hkp⟩ := q1
  cases o1
  have hSk : kp 35 = S := by rw [hkp.2.2.2 35 (by decide) (by decide)]; exact hS
  have h0k : kp 34 6 = 0 := hkp.2.1
  refine az_to 0 (pc2 := 4) (lv2 := [some (az_r 34), some (az_i (zg)), some (az_i (1))]) (st2 := []) (s2 := kp) rfl ?_
  refine az_to 4 (pc2 := 8) (lv2 := [some (az_r 34), some (az_i (zg)), some (az_i (1))]) (st2 := [az_i (1), az_i (zg), az_r 34, az_r 34]) (s2 := kp) rfl ?_
  refine az_ifc 15 11 rfl (by decide) ⟨by decide, by decide⟩ (fun h => absurd h (by unfold az_cnd; decide)) (fun _ => ?_)
  refine az_to 2 (pc2 := 16) (lv2 := [some (az_r 34), some (az_i (zg)), some (az_i (1))]) (st2 := [az_i (1), az_i (zg), az_r 34, az_r 34]) (s2 := kp) rfl ?_
  refine az_cl (m2 := am_m_X10_strikes) (as := [az_r 34, az_i (zg), az_i (1)]) (rest := [az_r 34]) 19 rfl rfl ⟨rfl, rfl⟩ (by omega) (zs_X10_strikes_1 (s := kp) (zg := zg) (by omega) hSk hI hh (by first | assumption | exact ⟨by omega, by omega⟩)) (fun v2 u q2 => ?_) (fun E u q2 => by cases q2.1)
  obtain ⟨o2, hu⟩ := q2
  cases o2
  refine az_to 0 (pc2 := 19) (lv2 := [some (az_r 34), some (az_i (zg)), some (az_i (1))]) (st2 := [az_i ((if (zo_strike S zg 1).1 = 0 then (zo_strike S zg 1).2.1 else 0)), az_r 34]) (s2 := u) rfl ?_
  refine az_to 1 (pc2 := 20) (lv2 := [some (az_r 34), some (az_i (zg)), some (az_i (1))]) (st2 := [az_i (2), az_i ((if (zo_strike S zg 1).1 = 0 then (zo_strike S zg 1).2.1 else 0)), az_r 34]) (s2 := u) rfl ?_
  have hr : (zo_strike S zg 1).1 = 0 ∨ (zo_strike S zg 1).1 = 1 ∨ (zo_strike S zg 1).1 = 2 ∨ (zo_strike S zg 1).1 = 3 := by unfold zo_strike; repeat (first | exact Or.inl rfl | exact Or.inr (Or.inl rfl) | exact Or.inr (Or.inr (Or.inl rfl)) | exact Or.inr (Or.inr (Or.inr rfl)) | split)
  rcases hr with hr | hr | hr | hr
  · have hku : u 34 6 = 0 := by rw [hu.2.1, hr]; rfl
    refine az_cl (m2 := am_m_X10_ends) (as := [az_r 34, az_i ((if (zo_strike S zg 1).1 = 0 then (zo_strike S zg 1).2.1 else 0)), az_i (2)]) (rest := []) 23 rfl rfl ⟨rfl, rfl⟩ (by omega) (zs_X10_ends_0 (s := u) (by omega) hku (c := c) (by rw [hu.2.2.2.2.1 5 (by decide) (by decide) (by decide) (by decide), hkp.2.2.1 5 (by decide)]; exact hc) hc8) (fun v t q9 => ?_) (fun E9 t q9 => by cases q9.1)
    obtain ⟨q8, q1, q2, q3, q4⟩ := q9
    cases q8
    refine az_retI rfl rfl ?_
    exact ⟨rfl, zPm_0 hkp hu hr q1 q2 q3 q4⟩
  · have hku : u 34 6 = 1 := by rw [hu.2.1, hr]; rfl
    refine az_cl (m2 := am_m_X10_ends) (as := [az_r 34, az_i ((if (zo_strike S zg 1).1 = 0 then (zo_strike S zg 1).2.1 else 0)), az_i (2)]) (rest := []) 23 rfl rfl ⟨rfl, rfl⟩ (by omega) (zs_X10_ends_1 (s := u) (by omega) hku) (fun v t q9 => ?_) (fun E9 t q9 => by cases q9.1)
    obtain ⟨q8, q9⟩ := q9
    cases q8
    refine az_retI rfl rfl ?_
    exact ⟨by rw [if_neg (by omega)], zPm_x hkp hu (by omega) q9 (by rw [hr]; rfl)⟩
  · have hku : u 34 6 = 2 := by rw [hu.2.1, hr]; rfl
    refine az_cl (m2 := am_m_X10_ends) (as := [az_r 34, az_i ((if (zo_strike S zg 1).1 = 0 then (zo_strike S zg 1).2.1 else 0)), az_i (2)]) (rest := []) 23 rfl rfl ⟨rfl, rfl⟩ (by omega) (zs_X10_ends_2 (s := u) (by omega) hku) (fun v t q9 => ?_) (fun E9 t q9 => by cases q9.1)
    obtain ⟨q8, q9⟩ := q9
    cases q8
    refine az_retI rfl rfl ?_
    exact ⟨by rw [if_neg (by omega)], zPm_x hkp hu (by omega) q9 (by rw [hr]; rfl)⟩
  · have hku : u 34 6 = 9 := by rw [hu.2.1, hr]; rfl
    refine az_cl (m2 := am_m_X10_ends) (as := [az_r 34, az_i ((if (zo_strike S zg 1).1 = 0 then (zo_strike S zg 1).2.1 else 0)), az_i (2)]) (rest := []) 23 rfl rfl ⟨rfl, rfl⟩ (by omega) (zs_X10_ends_9 (s := u) (by omega) hku) (fun v t q9 => ?_) (fun E9 t q9 => by cases q9.1)
    obtain ⟨q8, q9⟩ := q9
    cases q8
    refine az_retI rfl rfl ?_
    exact ⟨by rw [if_neg (by omega)], zPm_x hkp hu (by omega) q9 (by rw [hr]; rfl)⟩
set_option maxRecDepth 100000 in
set_option maxHeartbeats 800000 in
theorem zs_X10_strike_0 {d : Nat} {s : az_S} (hd : 6 ≤ d) {S : zR} {h : Nat} (hS : s 35 = S) (hI : zInv S h) (hh : h ≤ 10000) (hh9 : h + 1 ≤ 10000) {c : Nat} (hc : s 34 5 = ((c : Nat) : Int)) (hc8 : c ≤ 8) {zg : Int} (h_zg : az_in zg) : az_R d am_m_X10_strike 0 (az_ini (am_mL am_m_X10_strike) [az_r 34, az_i (zg), az_i (0)]) [] (s) (fun o t => o = .inl (some (az_i (if (zo_strike S zg 0).1 = 0 then (zo_strike S zg 0).2.1 else 0))) ∧ zPm s t c (zo_strike S zg 0) 2 2) := by
  refine az_to 0 (pc2 := 0) (lv2 := [some (az_r 34), some (az_i (zg)), some (az_i (0))]) (st2 := []) (s2 := s) rfl ?_
  refine az_to 1 (pc2 := 1) (lv2 := [some (az_r 34), some (az_i (zg)), some (az_i (0))]) (st2 := [az_r 34]) (s2 := s) rfl ?_
  refine az_cl (m2 := am_m_X10_keeps) (as := [az_r 34]) (rest := []) 4 rfl rfl ⟨rfl, rfl⟩ (by omega) (zs_X10_keeps (s := s)  (by omega) ) (fun v1 kp q1 => ?_) (fun E kp q1 => by cases q1.1)
  obtain ⟨o1, hkp⟩ := q1
  cases o1
  have hSk : kp 35 = S := by rw [hkp.2.2.2 35 (by decide) (by decide)]; exact hS
  have h0k : kp 34 6 = 0 := hkp.2.1
  refine az_to 0 (pc2 := 4) (lv2 := [some (az_r 34), some (az_i (zg)), some (az_i (0))]) (st2 := []) (s2 := kp) rfl ?_
  refine az_to 4 (pc2 := 8) (lv2 := [some (az_r 34), some (az_i (zg)), some (az_i (0))]) (st2 := [az_i (0), az_i (zg), az_r 34, az_r 34]) (s2 := kp) rfl ?_
  refine az_ifc 15 11 rfl (by decide) ⟨by decide, by decide⟩ (fun _ => ?_) (fun h => absurd (show az_cnd _ _ _ by unfold az_cnd; decide) h)
  refine az_to 1 (pc2 := 16) (lv2 := [some (az_r 34), some (az_i (zg)), some (az_i (0))]) (st2 := [az_i (0), az_i (zg), az_r 34, az_r 34]) (s2 := kp) rfl ?_
  refine az_cl (m2 := am_m_X10_strikes) (as := [az_r 34, az_i (zg), az_i (0)]) (rest := [az_r 34]) 19 rfl rfl ⟨rfl, rfl⟩ (by omega) (zs_X10_strikes_0 (s := kp) (zg := zg) (by omega) hSk hI hh (by first | assumption | exact ⟨by omega, by omega⟩)) (fun v2 u q2 => ?_) (fun E u q2 => by cases q2.1)
  obtain ⟨o2, hu⟩ := q2
  cases o2
  refine az_to 0 (pc2 := 19) (lv2 := [some (az_r 34), some (az_i (zg)), some (az_i (0))]) (st2 := [az_i ((if (zo_strike S zg 0).1 = 0 then (zo_strike S zg 0).2.1 else 0)), az_r 34]) (s2 := u) rfl ?_
  refine az_to 1 (pc2 := 20) (lv2 := [some (az_r 34), some (az_i (zg)), some (az_i (0))]) (st2 := [az_i (2), az_i ((if (zo_strike S zg 0).1 = 0 then (zo_strike S zg 0).2.1 else 0)), az_r 34]) (s2 := u) rfl ?_
  have hr : (zo_strike S zg 0).1 = 0 ∨ (zo_strike S zg 0).1 = 1 ∨ (zo_strike S zg 0).1 = 2 ∨ (zo_strike S zg 0).1 = 3 := by unfold zo_strike; repeat (first | exact Or.inl rfl | exact Or.inr (Or.inl rfl) | exact Or.inr (Or.inr (Or.inl rfl)) | exact Or.inr (Or.inr (Or.inr rfl)) | split)
  rcases hr with hr | hr | hr | hr
  · have hku : u 34 6 = 0 := by rw [hu.2.1, hr]; rfl
    refine az_cl (m2 := am_m_X10_ends) (as := [az_r 34, az_i ((if (zo_strike S zg 0).1 = 0 then (zo_strike S zg 0).2.1 else 0)), az_i (2)]) (rest := []) 23 rfl rfl ⟨rfl, rfl⟩ (by omega) (zs_X10_ends_0 (s := u) (by omega) hku (c := c) (by rw [hu.2.2.2.2.1 5 (by decide) (by decide) (by decide) (by decide), hkp.2.2.1 5 (by decide)]; exact hc) hc8) (fun v t q9 => ?_) (fun E9 t q9 => by cases q9.1)
    obtain ⟨q8, q1, q2, q3, q4⟩ := q9
    cases q8
    refine az_retI rfl rfl ?_
    exact ⟨rfl, zPm_0 hkp hu hr q1 q2 q3 q4⟩
  · have hku : u 34 6 = 1 := by rw [hu.2.1, hr]; rfl
    refine az_cl (m2 := am_m_X10_ends) (as := [az_r 34, az_i ((if (zo_strike S zg 0).1 = 0 then (zo_strike S zg 0).2.1 else 0)), az_i (2)]) (rest := []) 23 rfl rfl ⟨rfl, rfl⟩ (by omega) (zs_X10_ends_1 (s := u) (by omega) hku) (fun v t q9 => ?_) (fun E9 t q9 => by cases q9.1)
    obtain ⟨q8, q9⟩ := q9
    cases q8
    refine az_retI rfl rfl ?_
    exact ⟨by rw [if_neg (by omega)], zPm_x hkp hu (by omega) q9 (by rw [hr]; rfl)⟩
  · have hku : u 34 6 = 2 := by rw [hu.2.1, hr]; rfl
    refine az_cl (m2 := am_m_X10_ends) (as := [az_r 34, az_i ((if (zo_strike S zg 0).1 = 0 then (zo_strike S zg 0).2.1 else 0)), az_i (2)]) (rest := []) 23 rfl rfl ⟨rfl, rfl⟩ (by omega) (zs_X10_ends_2 (s := u) (by omega) hku) (fun v t q9 => ?_) (fun E9 t q9 => by cases q9.1)
    obtain ⟨q8, q9⟩ := q9
    cases q8
    refine az_retI rfl rfl ?_
    exact ⟨by rw [if_neg (by omega)], zPm_x hkp hu (by omega) q9 (by rw [hr]; rfl)⟩
  · have hku : u 34 6 = 9 := by rw [hu.2.1, hr]; rfl
    refine az_cl (m2 := am_m_X10_ends) (as := [az_r 34, az_i ((if (zo_strike S zg 0).1 = 0 then (zo_strike S zg 0).2.1 else 0)), az_i (2)]) (rest := []) 23 rfl rfl ⟨rfl, rfl⟩ (by omega) (zs_X10_ends_9 (s := u) (by omega) hku) (fun v t q9 => ?_) (fun E9 t q9 => by cases q9.1)
    obtain ⟨q8, q9⟩ := q9
    cases q8
    refine az_retI rfl rfl ?_
    exact ⟨by rw [if_neg (by omega)], zPm_x hkp hu (by omega) q9 (by rw [hr]; rfl)⟩
set_option maxRecDepth 100000 in
set_option maxHeartbeats 800000 in
theorem zs_X10_pass {d : Nat} {s : az_S} (hd : 6 ≤ d) {S : zR} {h : Nat} (hS : s 35 = S) (hI : zInv S h) (hh : h ≤ 10000) (hh9 : h + 1 ≤ 10000) {c : Nat} (hc : s 34 5 = ((c : Nat) : Int)) (hc8 : c ≤ 8) {zh : Int} (h_zh : az_in zh) : az_R d am_m_X10_pass 0 (az_ini (am_mL am_m_X10_pass) [az_r 34, az_i (zh)]) [] (s) (fun o t => o = .inl (some (az_i (if (zo_pass S zh).1 = 0 then (zo_pass S zh).2.1 else 0))) ∧ zPm s t c (zo_pass S zh) 1 1) := by
  refine az_to 0 (pc2 := 0) (lv2 := [some (az_r 34), some (az_i (zh))]) (st2 := []) (s2 := s) rfl ?_
  refine az_to 1 (pc2 := 1) (lv2 := [some (az_r 34), some (az_i (zh))]) (st2 := [az_r 34]) (s2 := s) rfl ?_
  refine az_cl (m2 := am_m_X10_keeps) (as := [az_r 34]) (rest := []) 4 rfl rfl ⟨rfl, rfl⟩ (by omega) (zs_X10_keeps (s := s)  (by omega) ) (fun v1 kp q1 => ?_) (fun E kp q1 => by cases q1.1)
  obtain ⟨o1, hkp⟩ := q1
  cases o1
  have hSk : kp 35 = S := by rw [hkp.2.2.2 35 (by decide) (by decide)]; exact hS
  have h0k : kp 34 6 = 0 := hkp.2.1
  refine az_to 0 (pc2 := 4) (lv2 := [some (az_r 34), some (az_i (zh))]) (st2 := []) (s2 := kp) rfl ?_
  refine az_to 3 (pc2 := 7) (lv2 := [some (az_r 34), some (az_i (zh))]) (st2 := [az_i (zh), az_r 34, az_r 34]) (s2 := kp) rfl ?_
  refine az_cl (m2 := am_m_X10_passes) (as := [az_r 34, az_i (zh)]) (rest := [az_r 34]) 10 rfl rfl ⟨rfl, rfl⟩ (by omega) (zs_X10_passes (s := kp) (zh := zh) (by omega) hSk hI hh (by first | assumption | exact ⟨by omega, by omega⟩) (by omega)) (fun v2 u q2 => ?_) (fun E u q2 => by cases q2.1)
  obtain ⟨o2, hu⟩ := q2
  cases o2
  refine az_to 0 (pc2 := 10) (lv2 := [some (az_r 34), some (az_i (zh))]) (st2 := [az_i ((if (zo_pass S zh).1 = 0 then (zo_pass S zh).2.1 else 0)), az_r 34]) (s2 := u) rfl ?_
  refine az_to 1 (pc2 := 11) (lv2 := [some (az_r 34), some (az_i (zh))]) (st2 := [az_i (1), az_i ((if (zo_pass S zh).1 = 0 then (zo_pass S zh).2.1 else 0)), az_r 34]) (s2 := u) rfl ?_
  have hr : (zo_pass S zh).1 = 0 ∨ (zo_pass S zh).1 = 1 ∨ (zo_pass S zh).1 = 2 ∨ (zo_pass S zh).1 = 3 := by unfold zo_pass; repeat (first | exact Or.inl rfl | exact Or.inr (Or.inl rfl) | exact Or.inr (Or.inr (Or.inl rfl)) | exact Or.inr (Or.inr (Or.inr rfl)) | split)
  rcases hr with hr | hr | hr | hr
  · have hku : u 34 6 = 0 := by rw [hu.2.1, hr]; rfl
    refine az_cl (m2 := am_m_X10_ends) (as := [az_r 34, az_i ((if (zo_pass S zh).1 = 0 then (zo_pass S zh).2.1 else 0)), az_i (1)]) (rest := []) 14 rfl rfl ⟨rfl, rfl⟩ (by omega) (zs_X10_ends_0 (s := u) (by omega) hku (c := c) (by rw [hu.2.2.2.2.1 5 (by decide) (by decide) (by decide) (by decide), hkp.2.2.1 5 (by decide)]; exact hc) hc8) (fun v t q9 => ?_) (fun E9 t q9 => by cases q9.1)
    obtain ⟨q8, q1, q2, q3, q4⟩ := q9
    cases q8
    refine az_retI rfl rfl ?_
    exact ⟨rfl, zPm_0 hkp hu hr q1 q2 q3 q4⟩
  · have hku : u 34 6 = 1 := by rw [hu.2.1, hr]; rfl
    refine az_cl (m2 := am_m_X10_ends) (as := [az_r 34, az_i ((if (zo_pass S zh).1 = 0 then (zo_pass S zh).2.1 else 0)), az_i (1)]) (rest := []) 14 rfl rfl ⟨rfl, rfl⟩ (by omega) (zs_X10_ends_1 (s := u) (by omega) hku) (fun v t q9 => ?_) (fun E9 t q9 => by cases q9.1)
    obtain ⟨q8, q9⟩ := q9
    cases q8
    refine az_retI rfl rfl ?_
    exact ⟨by rw [if_neg (by omega)], zPm_x hkp hu (by omega) q9 (by rw [hr]; rfl)⟩
  · have hku : u 34 6 = 1 := by rw [hu.2.1, hr]; rfl
    refine az_cl (m2 := am_m_X10_ends) (as := [az_r 34, az_i ((if (zo_pass S zh).1 = 0 then (zo_pass S zh).2.1 else 0)), az_i (1)]) (rest := []) 14 rfl rfl ⟨rfl, rfl⟩ (by omega) (zs_X10_ends_1 (s := u) (by omega) hku) (fun v t q9 => ?_) (fun E9 t q9 => by cases q9.1)
    obtain ⟨q8, q9⟩ := q9
    cases q8
    refine az_retI rfl rfl ?_
    exact ⟨by rw [if_neg (by omega)], zPm_x hkp hu (by omega) q9 (by rw [hr]; rfl)⟩
  · have hku : u 34 6 = 9 := by rw [hu.2.1, hr]; rfl
    refine az_cl (m2 := am_m_X10_ends) (as := [az_r 34, az_i ((if (zo_pass S zh).1 = 0 then (zo_pass S zh).2.1 else 0)), az_i (1)]) (rest := []) 14 rfl rfl ⟨rfl, rfl⟩ (by omega) (zs_X10_ends_9 (s := u) (by omega) hku) (fun v t q9 => ?_) (fun E9 t q9 => by cases q9.1)
    obtain ⟨q8, q9⟩ := q9
    cases q8
    refine az_retI rfl rfl ?_
    exact ⟨by rw [if_neg (by omega)], zPm_x hkp hu (by omega) q9 (by rw [hr]; rfl)⟩
