/-! CLASS, 5: ways, the small things; written by program (wip/tools/zg/s5.py) -/
set_option maxRecDepth 100000 in
set_option maxHeartbeats 800000 in
theorem zs_X5_fill_9_L2 {d : Nat} {s : az_S} (hd : 0 ≤ d) {z : Int} : ∀ (m : Nat) (k : Nat) (u : az_S), m = 6 - k → (k ≤ 6) → (∀ v, v < k → u 10 v = z) → (∀ i, i ≠ 10 → u i = s i) → az_R d am_m_X5_fill 2 [some (az_r 9), some (az_i (z)), some (az_i (((k : Nat) : Int)))] [] (u) (fun o t => o = .inl none ∧ (∀ v, v < 6 → t 10 v = z) ∧ ∀ i, i ≠ 10 → t i = s i) := by
  intro m
  induction m using Nat.strongRecOn with
  | _ m ih =>
    intro k u hm g0 g1 g2
    refine az_to 4 (pc2 := 8) (lv2 := [some (az_r 9), some (az_i (z)), some (az_i (((k : Nat) : Int)))]) (st2 := [az_i (6), az_i (((k : Nat) : Int))]) (s2 := u) rfl ?_
    refine az_if2 24 11 rfl (by decide) (by first | assumption | exact ⟨by omega, by omega⟩) ⟨by decide, by decide⟩ (fun h1 => ?_) (fun h1 => ?_)
    · have h1 : 6 ≤ ((k : Nat) : Int) := h1
      refine az_ret0 rfl rfl ?_
      exact ⟨rfl, fun v hv => g1 v (by omega), g2⟩
    · have h1 : ¬ (6 ≤ ((k : Nat) : Int)) := h1
      refine az_to 4 (pc2 := 17) (lv2 := [some (az_r 9), some (az_i (z)), some (az_i (((k : Nat) : Int)))]) (st2 := [az_i (z), az_i (((k : Nat) : Int)), az_r 10]) (s2 := u) rfl ?_
      refine az_st_i 18 rfl rfl (by constructor <;> omega) ⟨by decide, rfl⟩ ?_
      refine az_to 2 (pc2 := 2) (lv2 := [some (az_r 9), some (az_i (z)), some (az_i ((((k : Nat) : Int) + 1)))]) (st2 := []) (s2 := am_up u 10 k (z)) rfl ?_
      exact ih _ (by omega) (k + 1) _ rfl (by omega) (fun v hv => by
        simp only [am_up, if_true]
        by_cases q : v = k
        · rw [if_pos q]
        · rw [if_neg q]; exact g1 v (by omega)) (fun i hi => by rw [← g2 i hi]; funext j; simp only [am_up, if_neg hi])
set_option maxRecDepth 100000 in
set_option maxHeartbeats 800000 in
theorem zs_X5_fill_9 {d : Nat} {s : az_S} (hd : 0 ≤ d) {z : Int} : az_R d am_m_X5_fill 0 (az_ini (am_mL am_m_X5_fill) [az_r 9, az_i (z)]) [] (s) (fun o t => o = .inl none ∧ (∀ v, v < 6 → t 10 v = z) ∧ ∀ i, i ≠ 10 → t i = s i) := by
  refine az_to 0 (pc2 := 0) (lv2 := [some (az_r 9), some (az_i (z)), none]) (st2 := []) (s2 := s) rfl ?_
  refine az_to 2 (pc2 := 2) (lv2 := [some (az_r 9), some (az_i (z)), some (az_i (0))]) (st2 := []) (s2 := s) rfl ?_
  exact zs_X5_fill_9_L2 (by omega) _ 0 s rfl (by omega) (fun v hv => absurd hv (by omega)) (fun i _ => rfl)
set_option maxRecDepth 100000 in
set_option maxHeartbeats 800000 in
theorem zs_X5_fill_11_L2 {d : Nat} {s : az_S} (hd : 0 ≤ d) {z : Int} : ∀ (m : Nat) (k : Nat) (u : az_S), m = 6 - k → (k ≤ 6) → (∀ v, v < k → u 12 v = z) → (∀ i, i ≠ 12 → u i = s i) → az_R d am_m_X5_fill 2 [some (az_r 11), some (az_i (z)), some (az_i (((k : Nat) : Int)))] [] (u) (fun o t => o = .inl none ∧ (∀ v, v < 6 → t 12 v = z) ∧ ∀ i, i ≠ 12 → t i = s i) := by
  intro m
  induction m using Nat.strongRecOn with
  | _ m ih =>
    intro k u hm g0 g1 g2
    refine az_to 4 (pc2 := 8) (lv2 := [some (az_r 11), some (az_i (z)), some (az_i (((k : Nat) : Int)))]) (st2 := [az_i (6), az_i (((k : Nat) : Int))]) (s2 := u) rfl ?_
    refine az_if2 24 11 rfl (by decide) (by first | assumption | exact ⟨by omega, by omega⟩) ⟨by decide, by decide⟩ (fun h1 => ?_) (fun h1 => ?_)
    · have h1 : 6 ≤ ((k : Nat) : Int) := h1
      refine az_ret0 rfl rfl ?_
      exact ⟨rfl, fun v hv => g1 v (by omega), g2⟩
    · have h1 : ¬ (6 ≤ ((k : Nat) : Int)) := h1
      refine az_to 4 (pc2 := 17) (lv2 := [some (az_r 11), some (az_i (z)), some (az_i (((k : Nat) : Int)))]) (st2 := [az_i (z), az_i (((k : Nat) : Int)), az_r 12]) (s2 := u) rfl ?_
      refine az_st_i 18 rfl rfl (by constructor <;> omega) ⟨by decide, rfl⟩ ?_
      refine az_to 2 (pc2 := 2) (lv2 := [some (az_r 11), some (az_i (z)), some (az_i ((((k : Nat) : Int) + 1)))]) (st2 := []) (s2 := am_up u 12 k (z)) rfl ?_
      exact ih _ (by omega) (k + 1) _ rfl (by omega) (fun v hv => by
        simp only [am_up, if_true]
        by_cases q : v = k
        · rw [if_pos q]
        · rw [if_neg q]; exact g1 v (by omega)) (fun i hi => by rw [← g2 i hi]; funext j; simp only [am_up, if_neg hi])
set_option maxRecDepth 100000 in
set_option maxHeartbeats 800000 in
theorem zs_X5_fill_11 {d : Nat} {s : az_S} (hd : 0 ≤ d) {z : Int} : az_R d am_m_X5_fill 0 (az_ini (am_mL am_m_X5_fill) [az_r 11, az_i (z)]) [] (s) (fun o t => o = .inl none ∧ (∀ v, v < 6 → t 12 v = z) ∧ ∀ i, i ≠ 12 → t i = s i) := by
  refine az_to 0 (pc2 := 0) (lv2 := [some (az_r 11), some (az_i (z)), none]) (st2 := []) (s2 := s) rfl ?_
  refine az_to 2 (pc2 := 2) (lv2 := [some (az_r 11), some (az_i (z)), some (az_i (0))]) (st2 := []) (s2 := s) rfl ?_
  exact zs_X5_fill_11_L2 (by omega) _ 0 s rfl (by omega) (fun v hv => absurd hv (by omega)) (fun i _ => rfl)
set_option maxRecDepth 100000 in
set_option maxHeartbeats 800000 in
theorem zs_X5_fill_13_L2 {d : Nat} {s : az_S} (hd : 0 ≤ d) {z : Int} : ∀ (m : Nat) (k : Nat) (u : az_S), m = 6 - k → (k ≤ 6) → (∀ v, v < k → u 14 v = z) → (∀ i, i ≠ 14 → u i = s i) → az_R d am_m_X5_fill 2 [some (az_r 13), some (az_i (z)), some (az_i (((k : Nat) : Int)))] [] (u) (fun o t => o = .inl none ∧ (∀ v, v < 6 → t 14 v = z) ∧ ∀ i, i ≠ 14 → t i = s i) := by
  intro m
  induction m using Nat.strongRecOn with
  | _ m ih =>
    intro k u hm g0 g1 g2
    refine az_to 4 (pc2 := 8) (lv2 := [some (az_r 13), some (az_i (z)), some (az_i (((k : Nat) : Int)))]) (st2 := [az_i (6), az_i (((k : Nat) : Int))]) (s2 := u) rfl ?_
    refine az_if2 24 11 rfl (by decide) (by first | assumption | exact ⟨by omega, by omega⟩) ⟨by decide, by decide⟩ (fun h1 => ?_) (fun h1 => ?_)
    · have h1 : 6 ≤ ((k : Nat) : Int) := h1
      refine az_ret0 rfl rfl ?_
      exact ⟨rfl, fun v hv => g1 v (by omega), g2⟩
    · have h1 : ¬ (6 ≤ ((k : Nat) : Int)) := h1
      refine az_to 4 (pc2 := 17) (lv2 := [some (az_r 13), some (az_i (z)), some (az_i (((k : Nat) : Int)))]) (st2 := [az_i (z), az_i (((k : Nat) : Int)), az_r 14]) (s2 := u) rfl ?_
      refine az_st_i 18 rfl rfl (by constructor <;> omega) ⟨by decide, rfl⟩ ?_
      refine az_to 2 (pc2 := 2) (lv2 := [some (az_r 13), some (az_i (z)), some (az_i ((((k : Nat) : Int) + 1)))]) (st2 := []) (s2 := am_up u 14 k (z)) rfl ?_
      exact ih _ (by omega) (k + 1) _ rfl (by omega) (fun v hv => by
        simp only [am_up, if_true]
        by_cases q : v = k
        · rw [if_pos q]
        · rw [if_neg q]; exact g1 v (by omega)) (fun i hi => by rw [← g2 i hi]; funext j; simp only [am_up, if_neg hi])
set_option maxRecDepth 100000 in
set_option maxHeartbeats 800000 in
theorem zs_X5_fill_13 {d : Nat} {s : az_S} (hd : 0 ≤ d) {z : Int} : az_R d am_m_X5_fill 0 (az_ini (am_mL am_m_X5_fill) [az_r 13, az_i (z)]) [] (s) (fun o t => o = .inl none ∧ (∀ v, v < 6 → t 14 v = z) ∧ ∀ i, i ≠ 14 → t i = s i) := by
  refine az_to 0 (pc2 := 0) (lv2 := [some (az_r 13), some (az_i (z)), none]) (st2 := []) (s2 := s) rfl ?_
  refine az_to 2 (pc2 := 2) (lv2 := [some (az_r 13), some (az_i (z)), some (az_i (0))]) (st2 := []) (s2 := s) rfl ?_
  exact zs_X5_fill_13_L2 (by omega) _ 0 s rfl (by omega) (fun v hv => absurd hv (by omega)) (fun i _ => rfl)
set_option maxRecDepth 100000 in
set_option maxHeartbeats 800000 in
theorem zs_X7_measure_1_L2 {d : Nat} {s : az_S} (hd : 5 ≤ d) {S : zR} {h : Nat} (hR : zRel (s 3) S) (hI : zInv S h) (hh : h ≤ 10000) : ∀ (m : Nat) (k : Nat) (u : az_S), m = zn S 0 - k → (k ≤ zn S 0) → (∀ b, b < k → u 8 b = zln S 1 b) → (∀ i, i ≠ 8 → u i = s i) → az_R d am_m_X7_measure 2 [some (az_r 6), some (az_i (1)), some (az_i (((k : Nat) : Int)))] [] (u) (fun o t => o = .inl none ∧ (∀ b, b < zn S 0 → t 8 b = zln S 1 b) ∧ ∀ i, i ≠ 8 → t i = s i) := by
  intro m
  induction m using Nat.strongRecOn with
  | _ m ih =>
    intro k u hm g0 g1 g2
    have hz := zI_h hI hh
    have hRu : zRel (u 3) S := by rw [g2 3 (by decide)]; exact hR
    refine az_to 4 (pc2 := 8) (lv2 := [some (az_r 6), some (az_i (1)), some (az_i (((k : Nat) : Int)))]) (st2 := [az_i (2), az_r 1, az_i (((k : Nat) : Int))]) (s2 := u) rfl ?_
    refine az_clv (v := some (az_i (((zn S 0 : Nat) : Int)))) (t := u) (m2 := am_m_X8_of) (as := [az_r 1, az_i (2)]) (rest := [az_i (((k : Nat) : Int))]) 11 rfl rfl ⟨rfl, rfl⟩ (by omega) (zs_X8_of_2 (s := u)  (by omega) hRu hI hh) ?_
    refine az_to 0 (pc2 := 11) (lv2 := [some (az_r 6), some (az_i (1)), some (az_i (((k : Nat) : Int)))]) (st2 := [az_i (((zn S 0 : Nat) : Int)), az_i (((k : Nat) : Int))]) (s2 := u) rfl ?_
    refine az_if2 51 14 rfl (by decide) (by first | assumption | exact ⟨by omega, by omega⟩) (by first | assumption | exact ⟨by omega, by omega⟩) (fun h1 => ?_) (fun h1 => ?_)
    · have h1 : ((zn S 0 : Nat) : Int) ≤ ((k : Nat) : Int) := h1
      refine az_ret0 rfl rfl ?_
      exact ⟨rfl, fun v hv => g1 v (by omega), g2⟩
    · have h1 : ¬ (((zn S 0 : Nat) : Int) ≤ ((k : Nat) : Int)) := h1
      refine az_to 4 (pc2 := 20) (lv2 := [some (az_r 6), some (az_i (1)), some (az_i (((k : Nat) : Int)))]) (st2 := [az_i (1), az_i (((k : Nat) : Int)), az_r 7]) (s2 := u) rfl ?_
      refine az_ifc 34 23 rfl (by decide) ⟨by decide, by decide⟩ (fun h => absurd h (by unfold az_cnd; decide)) (fun _ => ?_)
      refine az_to 3 (pc2 := 28) (lv2 := [some (az_r 6), some (az_i (1)), some (az_i (((k : Nat) : Int)))]) (st2 := [az_i (((k : Nat) : Int)), az_r 1, az_i (((k : Nat) : Int)), az_r 7]) (s2 := u) rfl ?_
      refine az_clv (v := some (az_i (ztk S k))) (t := u) (m2 := am_m_X8_hoursOver) (as := [az_r 1, az_i (((k : Nat) : Int))]) (rest := [az_i (((k : Nat) : Int)), az_r 7]) 31 rfl rfl ⟨rfl, rfl⟩ (by omega) (zs_X8_hoursOver (s := u) (b := k) (by omega) hRu hI hh (by omega)) ?_
      refine az_to 0 (pc2 := 31) (lv2 := [some (az_r 6), some (az_i (1)), some (az_i (((k : Nat) : Int)))]) (st2 := [az_i (ztk S k), az_i (((k : Nat) : Int)), az_r 7]) (s2 := u) rfl ?_
      refine az_to 1 (pc2 := 42) (lv2 := [some (az_r 6), some (az_i (1)), some (az_i (((k : Nat) : Int)))]) (st2 := [az_i (ztk S k), az_i (((k : Nat) : Int)), az_r 7]) (s2 := u) rfl ?_
      refine az_clv (v := none) (t := am_up u 8 k (ztk S k)) (m2 := am_m_X5_put) (as := [az_r 7, az_i (((k : Nat) : Int)), az_i (ztk S k)]) (rest := []) 45 rfl rfl ⟨rfl, rfl⟩ (by omega) (zs_X5_put_7 (s := u) (k := k) (v := (ztk S k)) (by omega) (by omega)) ?_
      refine az_to 0 (pc2 := 45) (lv2 := [some (az_r 6), some (az_i (1)), some (az_i (((k : Nat) : Int)))]) (st2 := []) (s2 := am_up u 8 k (ztk S k)) rfl ?_
      refine az_to 2 (pc2 := 2) (lv2 := [some (az_r 6), some (az_i (1)), some (az_i ((((k : Nat) : Int) + 1)))]) (st2 := []) (s2 := am_up u 8 k (ztk S k)) rfl ?_
      exact ih _ (by omega) (k + 1) _ rfl (by omega) (fun v hv => by
        simp only [am_up, if_true]
        by_cases q : v = k
        · rw [if_pos q, q]; rfl
        · rw [if_neg q]; exact g1 v (by omega)) (fun i hi => by rw [← g2 i hi]; funext j; simp only [am_up, if_neg hi])
set_option maxRecDepth 100000 in
set_option maxHeartbeats 800000 in
theorem zs_X7_measure_1 {d : Nat} {s : az_S} (hd : 5 ≤ d) {S : zR} {h : Nat} (hR : zRel (s 3) S) (hI : zInv S h) (hh : h ≤ 10000) : az_R d am_m_X7_measure 0 (az_ini (am_mL am_m_X7_measure) [az_r 6, az_i (1)]) [] (s) (fun o t => o = .inl none ∧ (∀ b, b < zn S 0 → t 8 b = zln S 1 b) ∧ ∀ i, i ≠ 8 → t i = s i) := by
  refine az_to 0 (pc2 := 0) (lv2 := [some (az_r 6), some (az_i (1)), none]) (st2 := []) (s2 := s) rfl ?_
  refine az_to 2 (pc2 := 2) (lv2 := [some (az_r 6), some (az_i (1)), some (az_i (0))]) (st2 := []) (s2 := s) rfl ?_
  exact zs_X7_measure_1_L2 (by omega) hR hI hh _ 0 s rfl (by omega) (fun v hv => absurd hv (by omega)) (fun i _ => rfl)
set_option maxRecDepth 100000 in
set_option maxHeartbeats 800000 in
theorem zs_X7_measure_0_L2 {d : Nat} {s : az_S} (hd : 5 ≤ d) {S : zR} {h : Nat} (hR : zRel (s 3) S) (hI : zInv S h) (hh : h ≤ 10000) : ∀ (m : Nat) (k : Nat) (u : az_S), m = zn S 0 - k → (k ≤ zn S 0) → (∀ b, b < k → u 8 b = zln S 0 b) → (∀ i, i ≠ 8 → u i = s i) → az_R d am_m_X7_measure 2 [some (az_r 6), some (az_i (0)), some (az_i (((k : Nat) : Int)))] [] (u) (fun o t => o = .inl none ∧ (∀ b, b < zn S 0 → t 8 b = zln S 0 b) ∧ ∀ i, i ≠ 8 → t i = s i) := by
  intro m
  induction m using Nat.strongRecOn with
  | _ m ih =>
    intro k u hm g0 g1 g2
    have hz := zI_h hI hh
    have hRu : zRel (u 3) S := by rw [g2 3 (by decide)]; exact hR
    refine az_to 4 (pc2 := 8) (lv2 := [some (az_r 6), some (az_i (0)), some (az_i (((k : Nat) : Int)))]) (st2 := [az_i (2), az_r 1, az_i (((k : Nat) : Int))]) (s2 := u) rfl ?_
    refine az_clv (v := some (az_i (((zn S 0 : Nat) : Int)))) (t := u) (m2 := am_m_X8_of) (as := [az_r 1, az_i (2)]) (rest := [az_i (((k : Nat) : Int))]) 11 rfl rfl ⟨rfl, rfl⟩ (by omega) (zs_X8_of_2 (s := u)  (by omega) hRu hI hh) ?_
    refine az_to 0 (pc2 := 11) (lv2 := [some (az_r 6), some (az_i (0)), some (az_i (((k : Nat) : Int)))]) (st2 := [az_i (((zn S 0 : Nat) : Int)), az_i (((k : Nat) : Int))]) (s2 := u) rfl ?_
    refine az_if2 51 14 rfl (by decide) (by first | assumption | exact ⟨by omega, by omega⟩) (by first | assumption | exact ⟨by omega, by omega⟩) (fun h1 => ?_) (fun h1 => ?_)
    · have h1 : ((zn S 0 : Nat) : Int) ≤ ((k : Nat) : Int) := h1
      refine az_ret0 rfl rfl ?_
      exact ⟨rfl, fun v hv => g1 v (by omega), g2⟩
    · have h1 : ¬ (((zn S 0 : Nat) : Int) ≤ ((k : Nat) : Int)) := h1
      refine az_to 4 (pc2 := 20) (lv2 := [some (az_r 6), some (az_i (0)), some (az_i (((k : Nat) : Int)))]) (st2 := [az_i (0), az_i (((k : Nat) : Int)), az_r 7]) (s2 := u) rfl ?_
      refine az_ifc 34 23 rfl (by decide) ⟨by decide, by decide⟩ (fun _ => ?_) (fun h => absurd (show az_cnd _ _ _ by unfold az_cnd; decide) h)
      refine az_to 3 (pc2 := 39) (lv2 := [some (az_r 6), some (az_i (0)), some (az_i (((k : Nat) : Int)))]) (st2 := [az_i (((k : Nat) : Int)), az_r 1, az_i (((k : Nat) : Int)), az_r 7]) (s2 := u) rfl ?_
      refine az_clv (v := some (az_i (zdue S k))) (t := u) (m2 := am_m_X8_tollDue) (as := [az_r 1, az_i (((k : Nat) : Int))]) (rest := [az_i (((k : Nat) : Int)), az_r 7]) 42 rfl rfl ⟨rfl, rfl⟩ (by omega) (zs_X8_tollDue (s := u) (b := k) (by omega) hRu hI hh (by omega)) ?_
      refine az_to 0 (pc2 := 42) (lv2 := [some (az_r 6), some (az_i (0)), some (az_i (((k : Nat) : Int)))]) (st2 := [az_i (zdue S k), az_i (((k : Nat) : Int)), az_r 7]) (s2 := u) rfl ?_
      refine az_clv (v := none) (t := am_up u 8 k (zdue S k)) (m2 := am_m_X5_put) (as := [az_r 7, az_i (((k : Nat) : Int)), az_i (zdue S k)]) (rest := []) 45 rfl rfl ⟨rfl, rfl⟩ (by omega) (zs_X5_put_7 (s := u) (k := k) (v := (zdue S k)) (by omega) (by omega)) ?_
      refine az_to 0 (pc2 := 45) (lv2 := [some (az_r 6), some (az_i (0)), some (az_i (((k : Nat) : Int)))]) (st2 := []) (s2 := am_up u 8 k (zdue S k)) rfl ?_
      refine az_to 2 (pc2 := 2) (lv2 := [some (az_r 6), some (az_i (0)), some (az_i ((((k : Nat) : Int) + 1)))]) (st2 := []) (s2 := am_up u 8 k (zdue S k)) rfl ?_
      exact ih _ (by omega) (k + 1) _ rfl (by omega) (fun v hv => by
        simp only [am_up, if_true]
        by_cases q : v = k
        · rw [if_pos q, q]; rfl
        · rw [if_neg q]; exact g1 v (by omega)) (fun i hi => by rw [← g2 i hi]; funext j; simp only [am_up, if_neg hi])
set_option maxRecDepth 100000 in
set_option maxHeartbeats 800000 in
theorem zs_X7_measure_0 {d : Nat} {s : az_S} (hd : 5 ≤ d) {S : zR} {h : Nat} (hR : zRel (s 3) S) (hI : zInv S h) (hh : h ≤ 10000) : az_R d am_m_X7_measure 0 (az_ini (am_mL am_m_X7_measure) [az_r 6, az_i (0)]) [] (s) (fun o t => o = .inl none ∧ (∀ b, b < zn S 0 → t 8 b = zln S 0 b) ∧ ∀ i, i ≠ 8 → t i = s i) := by
  refine az_to 0 (pc2 := 0) (lv2 := [some (az_r 6), some (az_i (0)), none]) (st2 := []) (s2 := s) rfl ?_
  refine az_to 2 (pc2 := 2) (lv2 := [some (az_r 6), some (az_i (0)), some (az_i (0))]) (st2 := []) (s2 := s) rfl ?_
  exact zs_X7_measure_0_L2 (by omega) hR hI hh _ 0 s rfl (by omega) (fun v hv => absurd hv (by omega)) (fun i _ => rfl)
set_option maxRecDepth 100000 in
set_option maxHeartbeats 800000 in
theorem zs_X7_shorten_9 {d : Nat} {s : az_S} (hd : 1 ≤ d) {u v : Nat} {l : Int} (hu : u < 6) (hv : v < 6) (hl : 0 ≤ l ∧ l ≤ 27) (hr : ∀ w, w < 6 → 0 ≤ s 10 w ∧ s 10 w ≤ 1000) : az_R d am_m_X7_shorten 0 (az_ini (am_mL am_m_X7_shorten) [az_r 9, az_i (((u : Nat) : Int)), az_i (((v : Nat) : Int)), az_i (l)]) [] (s) (fun o t => o = .inl (some (az_i (az_b (s 10 u + l < s 10 v)))) ∧ t 10 = zrl (s 10) u v l ∧ ∀ i, i ≠ 10 → t i = s i) := by
  have hru := hr u hu
  have hrv := hr v hv
  refine az_to 0 (pc2 := 0) (lv2 := [some (az_r 9), some (az_i (((u : Nat) : Int))), some (az_i (((v : Nat) : Int))), some (az_i (l)), none]) (st2 := []) (s2 := s) rfl ?_
  refine az_to 2 (pc2 := 2) (lv2 := [some (az_r 9), some (az_i (((u : Nat) : Int))), some (az_i (((v : Nat) : Int))), some (az_i (l)), none]) (st2 := [az_i (((u : Nat) : Int)), az_r 9]) (s2 := s) rfl ?_
  refine az_clv (v := some (az_i (s 10 u))) (t := s) (m2 := am_m_X5_at) (as := [az_r 9, az_i (((u : Nat) : Int))]) (rest := []) 5 rfl rfl ⟨rfl, rfl⟩ (by omega) (zs_X5_at_9 (s := s) (k := u) (by omega) (by omega)) ?_
  refine az_to 0 (pc2 := 5) (lv2 := [some (az_r 9), some (az_i (((u : Nat) : Int))), some (az_i (((v : Nat) : Int))), some (az_i (l)), none]) (st2 := [az_i (s 10 u)]) (s2 := s) rfl ?_
  refine az_to 5 (pc2 := 11) (lv2 := [some (az_r 9), some (az_i (((u : Nat) : Int))), some (az_i (((v : Nat) : Int))), some (az_i (l)), some (az_i ((s 10 u + l)))]) (st2 := [az_i (-1), az_i (((v : Nat) : Int))]) (s2 := s) rfl ?_
  refine az_if2 24 14 rfl (by decide) (by first | assumption | exact ⟨by omega, by omega⟩) ⟨by decide, by decide⟩ (fun h1 => ?_) (fun h1 => ?_)
  · have h1 : ((v : Nat) : Int) = -1 := h1
    exact absurd h1 (by omega)
  · have h1 : ¬ (((v : Nat) : Int) = -1) := h1
    refine az_to 3 (pc2 := 18) (lv2 := [some (az_r 9), some (az_i (((u : Nat) : Int))), some (az_i (((v : Nat) : Int))), some (az_i (l)), some (az_i ((s 10 u + l)))]) (st2 := [az_i (((v : Nat) : Int)), az_r 9, az_i ((s 10 u + l))]) (s2 := s) rfl ?_
    refine az_clv (v := some (az_i (s 10 v))) (t := s) (m2 := am_m_X5_at) (as := [az_r 9, az_i (((v : Nat) : Int))]) (rest := [az_i ((s 10 u + l))]) 21 rfl rfl ⟨rfl, rfl⟩ (by omega) (zs_X5_at_9 (s := s) (k := v) (by omega) (by omega)) ?_
    refine az_to 0 (pc2 := 21) (lv2 := [some (az_r 9), some (az_i (((u : Nat) : Int))), some (az_i (((v : Nat) : Int))), some (az_i (l)), some (az_i ((s 10 u + l)))]) (st2 := [az_i (s 10 v), az_i ((s 10 u + l))]) (s2 := s) rfl ?_
    refine az_if2 26 24 rfl (by decide) (by first | assumption | exact ⟨by omega, by omega⟩) (by first | assumption | exact ⟨by omega, by omega⟩) (fun h2 => ?_) (fun h2 => ?_)
    · have h2 : (s 10 u + l) < s 10 v := h2
      refine az_to 3 (pc2 := 30) (lv2 := [some (az_r 9), some (az_i (((u : Nat) : Int))), some (az_i (((v : Nat) : Int))), some (az_i (l)), some (az_i ((s 10 u + l)))]) (st2 := [az_i ((s 10 u + l)), az_i (((v : Nat) : Int)), az_r 9]) (s2 := s) rfl ?_
      refine az_clv (v := none) (t := am_up s 10 v ((s 10 u + l))) (m2 := am_m_X5_put) (as := [az_r 9, az_i (((v : Nat) : Int)), az_i ((s 10 u + l))]) (rest := []) 33 rfl rfl ⟨rfl, rfl⟩ (by omega) (zs_X5_put_9 (s := s) (k := v) (v := ((s 10 u + l))) (by omega) (by omega)) ?_
      refine az_to 0 (pc2 := 33) (lv2 := [some (az_r 9), some (az_i (((u : Nat) : Int))), some (az_i (((v : Nat) : Int))), some (az_i (l)), some (az_i ((s 10 u + l)))]) (st2 := []) (s2 := am_up s 10 v ((s 10 u + l))) rfl ?_
      refine az_to 1 (pc2 := 34) (lv2 := [some (az_r 9), some (az_i (((u : Nat) : Int))), some (az_i (((v : Nat) : Int))), some (az_i (l)), some (az_i ((s 10 u + l)))]) (st2 := [az_i (1)]) (s2 := am_up s 10 v ((s 10 u + l))) rfl ?_
      refine az_retB rfl rfl (by first | decide | omega | exact Or.inl rfl | exact Or.inr rfl) ?_
      have e : s 10 u + l < s 10 v := by omega
      exact ⟨by rw [az_b1 e], zrl_up e, fun i hi => by funext j; simp only [am_up, if_neg hi]⟩
    · have h2 : ¬ ((s 10 u + l) < s 10 v) := h2
      refine az_to 1 (pc2 := 25) (lv2 := [some (az_r 9), some (az_i (((u : Nat) : Int))), some (az_i (((v : Nat) : Int))), some (az_i (l)), some (az_i ((s 10 u + l)))]) (st2 := [az_i (0)]) (s2 := s) rfl ?_
      refine az_retB rfl rfl (by first | decide | omega | exact Or.inl rfl | exact Or.inr rfl) ?_
      have e : ¬ s 10 u + l < s 10 v := by omega
      exact ⟨by rw [az_b0 e], (zrl_no e).symm, fun i hi => rfl⟩
set_option maxRecDepth 100000 in
set_option maxHeartbeats 800000 in
theorem zs_X7_shorten_11 {d : Nat} {s : az_S} (hd : 1 ≤ d) {u v : Nat} {l : Int} (hu : u < 6) (hv : v < 6) (hl : 0 ≤ l ∧ l ≤ 27) (hr : ∀ w, w < 6 → 0 ≤ s 12 w ∧ s 12 w ≤ 1000) : az_R d am_m_X7_shorten 0 (az_ini (am_mL am_m_X7_shorten) [az_r 11, az_i (((u : Nat) : Int)), az_i (((v : Nat) : Int)), az_i (l)]) [] (s) (fun o t => o = .inl (some (az_i (az_b (s 12 u + l < s 12 v)))) ∧ t 12 = zrl (s 12) u v l ∧ ∀ i, i ≠ 12 → t i = s i) := by
  have hru := hr u hu
  have hrv := hr v hv
  refine az_to 0 (pc2 := 0) (lv2 := [some (az_r 11), some (az_i (((u : Nat) : Int))), some (az_i (((v : Nat) : Int))), some (az_i (l)), none]) (st2 := []) (s2 := s) rfl ?_
  refine az_to 2 (pc2 := 2) (lv2 := [some (az_r 11), some (az_i (((u : Nat) : Int))), some (az_i (((v : Nat) : Int))), some (az_i (l)), none]) (st2 := [az_i (((u : Nat) : Int)), az_r 11]) (s2 := s) rfl ?_
  refine az_clv (v := some (az_i (s 12 u))) (t := s) (m2 := am_m_X5_at) (as := [az_r 11, az_i (((u : Nat) : Int))]) (rest := []) 5 rfl rfl ⟨rfl, rfl⟩ (by omega) (zs_X5_at_11 (s := s) (k := u) (by omega) (by omega)) ?_
  refine az_to 0 (pc2 := 5) (lv2 := [some (az_r 11), some (az_i (((u : Nat) : Int))), some (az_i (((v : Nat) : Int))), some (az_i (l)), none]) (st2 := [az_i (s 12 u)]) (s2 := s) rfl ?_
  refine az_to 5 (pc2 := 11) (lv2 := [some (az_r 11), some (az_i (((u : Nat) : Int))), some (az_i (((v : Nat) : Int))), some (az_i (l)), some (az_i ((s 12 u + l)))]) (st2 := [az_i (-1), az_i (((v : Nat) : Int))]) (s2 := s) rfl ?_
  refine az_if2 24 14 rfl (by decide) (by first | assumption | exact ⟨by omega, by omega⟩) ⟨by decide, by decide⟩ (fun h1 => ?_) (fun h1 => ?_)
  · have h1 : ((v : Nat) : Int) = -1 := h1
    exact absurd h1 (by omega)
  · have h1 : ¬ (((v : Nat) : Int) = -1) := h1
    refine az_to 3 (pc2 := 18) (lv2 := [some (az_r 11), some (az_i (((u : Nat) : Int))), some (az_i (((v : Nat) : Int))), some (az_i (l)), some (az_i ((s 12 u + l)))]) (st2 := [az_i (((v : Nat) : Int)), az_r 11, az_i ((s 12 u + l))]) (s2 := s) rfl ?_
    refine az_clv (v := some (az_i (s 12 v))) (t := s) (m2 := am_m_X5_at) (as := [az_r 11, az_i (((v : Nat) : Int))]) (rest := [az_i ((s 12 u + l))]) 21 rfl rfl ⟨rfl, rfl⟩ (by omega) (zs_X5_at_11 (s := s) (k := v) (by omega) (by omega)) ?_
    refine az_to 0 (pc2 := 21) (lv2 := [some (az_r 11), some (az_i (((u : Nat) : Int))), some (az_i (((v : Nat) : Int))), some (az_i (l)), some (az_i ((s 12 u + l)))]) (st2 := [az_i (s 12 v), az_i ((s 12 u + l))]) (s2 := s) rfl ?_
    refine az_if2 26 24 rfl (by decide) (by first | assumption | exact ⟨by omega, by omega⟩) (by first | assumption | exact ⟨by omega, by omega⟩) (fun h2 => ?_) (fun h2 => ?_)
    · have h2 : (s 12 u + l) < s 12 v := h2
      refine az_to 3 (pc2 := 30) (lv2 := [some (az_r 11), some (az_i (((u : Nat) : Int))), some (az_i (((v : Nat) : Int))), some (az_i (l)), some (az_i ((s 12 u + l)))]) (st2 := [az_i ((s 12 u + l)), az_i (((v : Nat) : Int)), az_r 11]) (s2 := s) rfl ?_
      refine az_clv (v := none) (t := am_up s 12 v ((s 12 u + l))) (m2 := am_m_X5_put) (as := [az_r 11, az_i (((v : Nat) : Int)), az_i ((s 12 u + l))]) (rest := []) 33 rfl rfl ⟨rfl, rfl⟩ (by omega) (zs_X5_put_11 (s := s) (k := v) (v := ((s 12 u + l))) (by omega) (by omega)) ?_
      refine az_to 0 (pc2 := 33) (lv2 := [some (az_r 11), some (az_i (((u : Nat) : Int))), some (az_i (((v : Nat) : Int))), some (az_i (l)), some (az_i ((s 12 u + l)))]) (st2 := []) (s2 := am_up s 12 v ((s 12 u + l))) rfl ?_
      refine az_to 1 (pc2 := 34) (lv2 := [some (az_r 11), some (az_i (((u : Nat) : Int))), some (az_i (((v : Nat) : Int))), some (az_i (l)), some (az_i ((s 12 u + l)))]) (st2 := [az_i (1)]) (s2 := am_up s 12 v ((s 12 u + l))) rfl ?_
      refine az_retB rfl rfl (by first | decide | omega | exact Or.inl rfl | exact Or.inr rfl) ?_
      have e : s 12 u + l < s 12 v := by omega
      exact ⟨by rw [az_b1 e], zrl_up e, fun i hi => by funext j; simp only [am_up, if_neg hi]⟩
    · have h2 : ¬ ((s 12 u + l) < s 12 v) := h2
      refine az_to 1 (pc2 := 25) (lv2 := [some (az_r 11), some (az_i (((u : Nat) : Int))), some (az_i (((v : Nat) : Int))), some (az_i (l)), some (az_i ((s 12 u + l)))]) (st2 := [az_i (0)]) (s2 := s) rfl ?_
      refine az_retB rfl rfl (by first | decide | omega | exact Or.inl rfl | exact Or.inr rfl) ?_
      have e : ¬ s 12 u + l < s 12 v := by omega
      exact ⟨by rw [az_b0 e], (zrl_no e).symm, fun i hi => rfl⟩
set_option maxRecDepth 100000 in
set_option maxHeartbeats 800000 in
theorem zs_X7_shorten_z {d : Nat} {s : az_S} (hd : 1 ≤ d) {u : Nat} {z l : Int} (hu : u < 6) (hz : -1 ≤ z ∧ z < 6) (hl : 0 ≤ l ∧ l ≤ 27) (hr : ∀ w, w < 6 → 0 ≤ s 10 w ∧ s 10 w ≤ 1000) : az_R d am_m_X7_shorten 0 (az_ini (am_mL am_m_X7_shorten) [az_r 9, az_i (((u : Nat) : Int)), az_i (z), az_i (l)]) [] (s) (fun o t => (∃ x, o = .inl (some (az_i x))) ∧ (z = -1 → t 10 = s 10) ∧ (∀ v : Nat, z = v → t 10 = zrl (s 10) u v l) ∧ ∀ i, i ≠ 10 → t i = s i) := by
  by_cases q : z = -1
  · subst q
    have hru := hr u hu
    refine az_to 0 (pc2 := 0) (lv2 := [some (az_r 9), some (az_i u), some (az_i (-1)), some (az_i l), none]) (st2 := []) (s2 := s) rfl ?_
    refine az_to 2 (pc2 := 2) (lv2 := [some (az_r 9), some (az_i u), some (az_i (-1)), some (az_i l), none]) (st2 := [az_i u, az_r 9]) (s2 := s) rfl ?_
    refine az_clv (v := some (az_i (s 10 u))) (t := s) (m2 := am_m_X5_at) (as := [az_r 9, az_i u]) (rest := []) 5 rfl rfl ⟨rfl, rfl⟩ (by omega) (zs_X5_at_9 (s := s) (k := u) (by omega) (by omega)) ?_
    refine az_to 5 (pc2 := 11) (lv2 := [some (az_r 9), some (az_i u), some (az_i (-1)), some (az_i l), some (az_i (s 10 u + l))]) (st2 := [az_i (-1), az_i (-1)]) (s2 := s) rfl ?_
    refine az_if2 24 14 rfl (by decide) ⟨by decide, by decide⟩ ⟨by decide, by decide⟩ (fun _ => ?_) (fun h => absurd (show az_cnd _ _ _ by unfold az_cnd; decide) h)
    refine az_to 1 (pc2 := 25) (lv2 := [some (az_r 9), some (az_i u), some (az_i (-1)), some (az_i l), some (az_i (s 10 u + l))]) (st2 := [az_i 0]) (s2 := s) rfl ?_
    refine az_retB rfl rfl (Or.inl rfl) ?_
    exact ⟨⟨0, rfl⟩, fun _ => rfl, fun v hv => absurd hv (by omega), fun _ _ => rfl⟩
  · obtain ⟨v, rfl⟩ : ∃ v : Nat, z = v := ⟨z.toNat, by omega⟩
    refine az_post (zs_X7_shorten_9 hd hu (by omega) hl hr) (fun o t h => ⟨⟨_, h.1⟩, fun hq => absurd hq q, fun v2 hv2 => ?_, h.2.2⟩)
    have : v2 = v := by omega
    rw [this]
    exact h.2.1
set_option maxRecDepth 100000 in
set_option maxHeartbeats 800000 in
theorem zs_X7_nearestToLeave_L8 {d : Nat} {s : az_S} (hd : 1 ≤ d) (hD : ∀ v, v < 6 → 0 ≤ s 10 v ∧ s 10 v ≤ 1000) (hP : ∀ v, v < 6 → s 14 v = 0 ∨ s 14 v = 1) : ∀ (m : Nat) (k : Nat) (nr : Int) (ls : Int), m = 6 - k → (k ≤ 6) → (((nr = -1 ∧ ls = 1000 ∧ ∀ v, v < k → s 14 v = 0 → 1000 ≤ s 10 v) ∨ ∃ w, w < k ∧ nr = ((w : Nat) : Int) ∧ s 14 w = 0 ∧ ls = s 10 w ∧ s 10 w < 1000 ∧ ∀ v, v < k → s 14 v = 0 → s 10 w ≤ s 10 v)) → az_R d am_m_X7_nearestToLeave 8 [some (az_r 6), some (az_i (nr)), some (az_i (ls)), some (az_i (((k : Nat) : Int)))] [] (s) (fun o t => t = s ∧ ((o = .inl (some (az_i (-1))) ∧ ∀ v, v < 6 → s 14 v = 0 → 1000 ≤ s 10 v) ∨ ∃ w, w < 6 ∧ o = .inl (some (az_i ((w : Nat) : Int))) ∧ s 14 w = 0 ∧ ∀ v, v < 6 → s 14 v = 0 → s 10 w ≤ s 10 v)) := by
  intro m
  induction m using Nat.strongRecOn with
  | _ m ih =>
    intro k nr ls hm g0 g1
    refine az_to 2 (pc2 := 11) (lv2 := [some (az_r 6), some (az_i (nr)), some (az_i (ls)), some (az_i (((k : Nat) : Int)))]) (st2 := [az_i (6), az_i (((k : Nat) : Int))]) (s2 := s) rfl ?_
    refine az_if2 54 14 rfl (by decide) (by first | assumption | exact ⟨by omega, by omega⟩) ⟨by decide, by decide⟩ (fun h1 => ?_) (fun h1 => ?_)
    · have h1 : 6 ≤ ((k : Nat) : Int) := h1
      refine az_to 1 (pc2 := 55) (lv2 := [some (az_r 6), some (az_i (nr)), some (az_i (ls)), some (az_i (((k : Nat) : Int)))]) (st2 := [az_i (nr)]) (s2 := s) rfl ?_
      refine az_retI rfl rfl ?_
      rcases g1 with ⟨a1, a2, a3⟩ | ⟨w, a0, a1, a2, a3, a4, a5⟩
      · exact ⟨rfl, Or.inl ⟨by rw [a1], fun v hv => a3 v (by omega)⟩⟩
      · exact ⟨rfl, Or.inr ⟨w, by omega, by rw [a1], a2, fun v hv => a5 v (by omega)⟩⟩
    · have h1 : ¬ (6 ≤ ((k : Nat) : Int)) := h1
      have hDk := hD k (by omega)
      have hPk := hP k (by omega)
      have hls : 0 ≤ ls ∧ ls ≤ 1000 := by
        rcases g1 with ⟨a1, a2, a3⟩ | ⟨w, a0, a1, a2, a3, a4, a5⟩
        · omega
        · have := hD w (by omega)
          omega
      refine az_to 3 (pc2 := 19) (lv2 := [some (az_r 6), some (az_i (nr)), some (az_i (ls)), some (az_i (((k : Nat) : Int)))]) (st2 := [az_i (((k : Nat) : Int)), az_r 13]) (s2 := s) rfl ?_
      refine az_clv (v := some (az_i (s 14 k))) (t := s) (m2 := am_m_X5_at) (as := [az_r 13, az_i (((k : Nat) : Int))]) (rest := []) 22 rfl rfl ⟨rfl, rfl⟩ (by omega) (zs_X5_at_13 (s := s) (k := k) (by omega) (by omega)) ?_
      refine az_to 0 (pc2 := 22) (lv2 := [some (az_r 6), some (az_i (nr)), some (az_i (ls)), some (az_i (((k : Nat) : Int)))]) (st2 := [az_i (s 14 k)]) (s2 := s) rfl ?_
      refine az_ifc 48 25 rfl (by decide) (by first | assumption | exact ⟨by omega, by omega⟩) (fun h2 => ?_) (fun h2 => ?_)
      · have h2 : ¬ s 14 k = 0 := h2
        refine az_to 2 (pc2 := 8) (lv2 := [some (az_r 6), some (az_i (nr)), some (az_i (ls)), some (az_i ((((k : Nat) : Int) + 1)))]) (st2 := []) (s2 := s) rfl ?_
        exact ih _ (by omega) (k + 1) nr ls rfl (by omega) (by
          rcases g1 with ⟨a1, a2, a3⟩ | ⟨w, a0, a1, a2, a3, a4, a5⟩
          · exact Or.inl ⟨a1, a2, fun v hv hq => by
              by_cases q : v = k
              · subst q; first | exact absurd hq (by omega) | omega
              · exact a3 v (by omega) hq⟩
          · exact Or.inr ⟨w, by omega, a1, a2, a3, a4, fun v hv hq => by
              by_cases q : v = k
              · subst q; first | exact absurd hq (by omega) | omega
              · exact a5 v (by omega) hq⟩)
      · have h2 : s 14 k = 0 := Decidable.not_not.mp h2
        refine az_to 3 (pc2 := 30) (lv2 := [some (az_r 6), some (az_i (nr)), some (az_i (ls)), some (az_i (((k : Nat) : Int)))]) (st2 := [az_i (((k : Nat) : Int)), az_r 9]) (s2 := s) rfl ?_
        refine az_clv (v := some (az_i (s 10 k))) (t := s) (m2 := am_m_X5_at) (as := [az_r 9, az_i (((k : Nat) : Int))]) (rest := []) 33 rfl rfl ⟨rfl, rfl⟩ (by omega) (zs_X5_at_9 (s := s) (k := k) (by omega) (by omega)) ?_
        refine az_to 0 (pc2 := 33) (lv2 := [some (az_r 6), some (az_i (nr)), some (az_i (ls)), some (az_i (((k : Nat) : Int)))]) (st2 := [az_i (s 10 k)]) (s2 := s) rfl ?_
        refine az_to 1 (pc2 := 34) (lv2 := [some (az_r 6), some (az_i (nr)), some (az_i (ls)), some (az_i (((k : Nat) : Int)))]) (st2 := [az_i (ls), az_i (s 10 k)]) (s2 := s) rfl ?_
        refine az_if2 48 37 rfl (by decide) (by first | assumption | exact ⟨by omega, by omega⟩) (by first | assumption | exact ⟨by omega, by omega⟩) (fun h3 => ?_) (fun h3 => ?_)
        · have h3 : ls ≤ s 10 k := h3
          refine az_to 2 (pc2 := 8) (lv2 := [some (az_r 6), some (az_i (nr)), some (az_i (ls)), some (az_i ((((k : Nat) : Int) + 1)))]) (st2 := []) (s2 := s) rfl ?_
          exact ih _ (by omega) (k + 1) nr ls rfl (by omega) (by
            rcases g1 with ⟨a1, a2, a3⟩ | ⟨w, a0, a1, a2, a3, a4, a5⟩
            · exact Or.inl ⟨a1, a2, fun v hv hq => by
                by_cases q : v = k
                · subst q; first | exact absurd hq (by omega) | omega
                · exact a3 v (by omega) hq⟩
            · exact Or.inr ⟨w, by omega, a1, a2, a3, a4, fun v hv hq => by
                by_cases q : v = k
                · subst q; first | exact absurd hq (by omega) | omega
                · exact a5 v (by omega) hq⟩)
        · have h3 : ¬ (ls ≤ s 10 k) := h3
          refine az_to 5 (pc2 := 44) (lv2 := [some (az_r 6), some (az_i (((k : Nat) : Int))), some (az_i (ls)), some (az_i (((k : Nat) : Int)))]) (st2 := [az_i (((k : Nat) : Int)), az_r 9]) (s2 := s) rfl ?_
          refine az_clv (v := some (az_i (s 10 k))) (t := s) (m2 := am_m_X5_at) (as := [az_r 9, az_i (((k : Nat) : Int))]) (rest := []) 47 rfl rfl ⟨rfl, rfl⟩ (by omega) (zs_X5_at_9 (s := s) (k := k) (by omega) (by omega)) ?_
          refine az_to 0 (pc2 := 47) (lv2 := [some (az_r 6), some (az_i (((k : Nat) : Int))), some (az_i (ls)), some (az_i (((k : Nat) : Int)))]) (st2 := [az_i (s 10 k)]) (s2 := s) rfl ?_
          refine az_to 3 (pc2 := 8) (lv2 := [some (az_r 6), some (az_i (((k : Nat) : Int))), some (az_i (s 10 k)), some (az_i ((((k : Nat) : Int) + 1)))]) (st2 := []) (s2 := s) rfl ?_
          exact ih _ (by omega) (k + 1) _ _ rfl (by omega) (Or.inr ⟨k, by omega, rfl, by omega, rfl, by rcases g1 with ⟨a1, a2, a3⟩ | ⟨w, a0, a1, a2, a3, a4, a5⟩ <;> omega, fun v hv hq => by
            by_cases q : v = k
            · rw [q]; exact Int.le_refl _
            · rcases g1 with ⟨a1, a2, a3⟩ | ⟨w, a0, a1, a2, a3, a4, a5⟩
              · have := a3 v (by omega) hq; omega
              · have := a5 v (by omega) hq; omega⟩)
set_option maxRecDepth 100000 in
set_option maxHeartbeats 800000 in
theorem zs_X7_nearestToLeave {d : Nat} {s : az_S} (hd : 1 ≤ d) (hD : ∀ v, v < 6 → 0 ≤ s 10 v ∧ s 10 v ≤ 1000) (hP : ∀ v, v < 6 → s 14 v = 0 ∨ s 14 v = 1) : az_R d am_m_X7_nearestToLeave 0 (az_ini (am_mL am_m_X7_nearestToLeave) [az_r 6]) [] (s) (fun o t => t = s ∧ ((o = .inl (some (az_i (-1))) ∧ ∀ v, v < 6 → s 14 v = 0 → 1000 ≤ s 10 v) ∨ ∃ w, w < 6 ∧ o = .inl (some (az_i ((w : Nat) : Int))) ∧ s 14 w = 0 ∧ ∀ v, v < 6 → s 14 v = 0 → s 10 w ≤ s 10 v)) := by
  refine az_to 0 (pc2 := 0) (lv2 := [some (az_r 6), none, none, none]) (st2 := []) (s2 := s) rfl ?_
  refine az_to 6 (pc2 := 8) (lv2 := [some (az_r 6), some (az_i (-1)), some (az_i (1000)), some (az_i (0))]) (st2 := []) (s2 := s) rfl ?_
  exact zs_X7_nearestToLeave_L8 (by omega) hD hP _ 0 _ _ rfl (by omega) (Or.inl ⟨rfl, rfl, fun v hv => absurd hv (by omega)⟩)

