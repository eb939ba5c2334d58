/-! CLASS, 1: rows, the numbers of the world, its sums; written by program (wip/tools/zg/s1.py) -/
set_option maxRecDepth 100000 in
set_option maxHeartbeats 800000 in
theorem zs_X5_at_2 {d : Nat} {s : az_S} (hd : 0 ≤ d) {k : Nat} (hk : k < 184) : az_R d am_m_X5_at 0 (az_ini (am_mL am_m_X5_at) [az_r 2, az_i (((k : Nat) : Int))]) [] (s) (az_ret (some (az_i (s 3 k))) (s)) := by
  refine az_to 0 (pc2 := 0) (lv2 := [some (az_r 2), some (az_i (((k : Nat) : Int)))]) (st2 := []) (s2 := s) rfl ?_
  refine az_to 1 (pc2 := 1) (lv2 := [some (az_r 2), some (az_i (((k : Nat) : Int)))]) (st2 := [az_i (((k : Nat) : Int))]) (s2 := s) rfl ?_
  refine az_ifc 22 4 rfl (by decide) (by first | assumption | exact ⟨by omega, by omega⟩) (fun h1 => ?_) (fun h1 => ?_)
  · have h1 : ((k : Nat) : Int) < 0 := h1
    exact absurd h1 (by omega)
  · have h1 : ¬ (((k : Nat) : Int) < 0) := h1
    refine az_to 4 (pc2 := 10) (lv2 := [some (az_r 2), some (az_i (((k : Nat) : Int)))]) (st2 := [az_i (184), az_i (((k : Nat) : Int))]) (s2 := s) rfl ?_
    refine az_if2 22 13 rfl (by decide) (by first | assumption | exact ⟨by omega, by omega⟩) ⟨by decide, by decide⟩ (fun h2 => ?_) (fun h2 => ?_)
    · have h2 : 184 ≤ ((k : Nat) : Int) := h2
      exact absurd h2 (by omega)
    · have h2 : ¬ (184 ≤ ((k : Nat) : Int)) := h2
      refine az_to 3 (pc2 := 18) (lv2 := [some (az_r 2), some (az_i (((k : Nat) : Int)))]) (st2 := [az_i (((k : Nat) : Int)), az_r 3]) (s2 := s) rfl ?_
      refine az_ld_i 19 rfl rfl (by constructor <;> omega) ⟨by decide, rfl⟩ ?_
      refine az_to 1 (pc2 := 23) (lv2 := [some (az_r 2), some (az_i (((k : Nat) : Int)))]) (st2 := [az_i (s 3 k)]) (s2 := s) rfl ?_
      refine az_retI rfl rfl ?_
      exact ⟨rfl, rfl⟩
set_option maxRecDepth 100000 in
set_option maxHeartbeats 800000 in
theorem zs_X5_put_2 {d : Nat} {s : az_S} (hd : 0 ≤ d) {k : Nat} {v : Int} (hk : k < 184) : az_R d am_m_X5_put 0 (az_ini (am_mL am_m_X5_put) [az_r 2, az_i (((k : Nat) : Int)), az_i (v)]) [] (s) (az_ret (none) (am_up s 3 k v)) := by
  refine az_to 0 (pc2 := 0) (lv2 := [some (az_r 2), some (az_i (((k : Nat) : Int))), some (az_i (v))]) (st2 := []) (s2 := s) rfl ?_
  refine az_to 1 (pc2 := 1) (lv2 := [some (az_r 2), some (az_i (((k : Nat) : Int))), some (az_i (v))]) (st2 := [az_i (((k : Nat) : Int))]) (s2 := s) rfl ?_
  refine az_ifc 20 4 rfl (by decide) (by first | assumption | exact ⟨by omega, by omega⟩) (fun h1 => ?_) (fun h1 => ?_)
  · have h1 : ((k : Nat) : Int) < 0 := h1
    exact absurd h1 (by omega)
  · have h1 : ¬ (((k : Nat) : Int) < 0) := h1
    refine az_to 4 (pc2 := 10) (lv2 := [some (az_r 2), some (az_i (((k : Nat) : Int))), some (az_i (v))]) (st2 := [az_i (184), az_i (((k : Nat) : Int))]) (s2 := s) rfl ?_
    refine az_if2 20 13 rfl (by decide) (by first | assumption | exact ⟨by omega, by omega⟩) ⟨by decide, by decide⟩ (fun h2 => ?_) (fun h2 => ?_)
    · have h2 : 184 ≤ ((k : Nat) : Int) := h2
      exact absurd h2 (by omega)
    · have h2 : ¬ (184 ≤ ((k : Nat) : Int)) := h2
      refine az_to 4 (pc2 := 19) (lv2 := [some (az_r 2), some (az_i (((k : Nat) : Int))), some (az_i (v))]) (st2 := [az_i (v), az_i (((k : Nat) : Int)), az_r 3]) (s2 := s) rfl ?_
      refine az_st_i 20 rfl rfl (by constructor <;> omega) ⟨by decide, rfl⟩ ?_
      refine az_ret0 rfl rfl ?_
      exact ⟨rfl, rfl⟩
set_option maxRecDepth 100000 in
set_option maxHeartbeats 800000 in
theorem zs_X5_at_7 {d : Nat} {s : az_S} (hd : 0 ≤ d) {k : Nat} (hk : k < 10) : az_R d am_m_X5_at 0 (az_ini (am_mL am_m_X5_at) [az_r 7, az_i (((k : Nat) : Int))]) [] (s) (az_ret (some (az_i (s 8 k))) (s)) := by
  refine az_to 0 (pc2 := 0) (lv2 := [some (az_r 7), some (az_i (((k : Nat) : Int)))]) (st2 := []) (s2 := s) rfl ?_
  refine az_to 1 (pc2 := 1) (lv2 := [some (az_r 7), some (az_i (((k : Nat) : Int)))]) (st2 := [az_i (((k : Nat) : Int))]) (s2 := s) rfl ?_
  refine az_ifc 22 4 rfl (by decide) (by first | assumption | exact ⟨by omega, by omega⟩) (fun h1 => ?_) (fun h1 => ?_)
  · have h1 : ((k : Nat) : Int) < 0 := h1
    exact absurd h1 (by omega)
  · have h1 : ¬ (((k : Nat) : Int) < 0) := h1
    refine az_to 4 (pc2 := 10) (lv2 := [some (az_r 7), some (az_i (((k : Nat) : Int)))]) (st2 := [az_i (10), az_i (((k : Nat) : Int))]) (s2 := s) rfl ?_
    refine az_if2 22 13 rfl (by decide) (by first | assumption | exact ⟨by omega, by omega⟩) ⟨by decide, by decide⟩ (fun h2 => ?_) (fun h2 => ?_)
    · have h2 : 10 ≤ ((k : Nat) : Int) := h2
      exact absurd h2 (by omega)
    · have h2 : ¬ (10 ≤ ((k : Nat) : Int)) := h2
      refine az_to 3 (pc2 := 18) (lv2 := [some (az_r 7), some (az_i (((k : Nat) : Int)))]) (st2 := [az_i (((k : Nat) : Int)), az_r 8]) (s2 := s) rfl ?_
      refine az_ld_i 19 rfl rfl (by constructor <;> omega) ⟨by decide, rfl⟩ ?_
      refine az_to 1 (pc2 := 23) (lv2 := [some (az_r 7), some (az_i (((k : Nat) : Int)))]) (st2 := [az_i (s 8 k)]) (s2 := s) rfl ?_
      refine az_retI rfl rfl ?_
      exact ⟨rfl, rfl⟩
set_option maxRecDepth 100000 in
set_option maxHeartbeats 800000 in
theorem zs_X5_put_7 {d : Nat} {s : az_S} (hd : 0 ≤ d) {k : Nat} {v : Int} (hk : k < 10) : az_R d am_m_X5_put 0 (az_ini (am_mL am_m_X5_put) [az_r 7, az_i (((k : Nat) : Int)), az_i (v)]) [] (s) (az_ret (none) (am_up s 8 k v)) := by
  refine az_to 0 (pc2 := 0) (lv2 := [some (az_r 7), some (az_i (((k : Nat) : Int))), some (az_i (v))]) (st2 := []) (s2 := s) rfl ?_
  refine az_to 1 (pc2 := 1) (lv2 := [some (az_r 7), some (az_i (((k : Nat) : Int))), some (az_i (v))]) (st2 := [az_i (((k : Nat) : Int))]) (s2 := s) rfl ?_
  refine az_ifc 20 4 rfl (by decide) (by first | assumption | exact ⟨by omega, by omega⟩) (fun h1 => ?_) (fun h1 => ?_)
  · have h1 : ((k : Nat) : Int) < 0 := h1
    exact absurd h1 (by omega)
  · have h1 : ¬ (((k : Nat) : Int) < 0) := h1
    refine az_to 4 (pc2 := 10) (lv2 := [some (az_r 7), some (az_i (((k : Nat) : Int))), some (az_i (v))]) (st2 := [az_i (10), az_i (((k : Nat) : Int))]) (s2 := s) rfl ?_
    refine az_if2 20 13 rfl (by decide) (by first | assumption | exact ⟨by omega, by omega⟩) ⟨by decide, by decide⟩ (fun h2 => ?_) (fun h2 => ?_)
    · have h2 : 10 ≤ ((k : Nat) : Int) := h2
      exact absurd h2 (by omega)
    · have h2 : ¬ (10 ≤ ((k : Nat) : Int)) := h2
      refine az_to 4 (pc2 := 19) (lv2 := [some (az_r 7), some (az_i (((k : Nat) : Int))), some (az_i (v))]) (st2 := [az_i (v), az_i (((k : Nat) : Int)), az_r 8]) (s2 := s) rfl ?_
      refine az_st_i 20 rfl rfl (by constructor <;> omega) ⟨by decide, rfl⟩ ?_
      refine az_ret0 rfl rfl ?_
      exact ⟨rfl, rfl⟩
set_option maxRecDepth 100000 in
set_option maxHeartbeats 800000 in
theorem zs_X5_at_9 {d : Nat} {s : az_S} (hd : 0 ≤ d) {k : Nat} (hk : k < 6) : az_R d am_m_X5_at 0 (az_ini (am_mL am_m_X5_at) [az_r 9, az_i (((k : Nat) : Int))]) [] (s) (az_ret (some (az_i (s 10 k))) (s)) := by
  refine az_to 0 (pc2 := 0) (lv2 := [some (az_r 9), some (az_i (((k : Nat) : Int)))]) (st2 := []) (s2 := s) rfl ?_
  refine az_to 1 (pc2 := 1) (lv2 := [some (az_r 9), some (az_i (((k : Nat) : Int)))]) (st2 := [az_i (((k : Nat) : Int))]) (s2 := s) rfl ?_
  refine az_ifc 22 4 rfl (by decide) (by first | assumption | exact ⟨by omega, by omega⟩) (fun h1 => ?_) (fun h1 => ?_)
  · have h1 : ((k : Nat) : Int) < 0 := h1
    exact absurd h1 (by omega)
  · have h1 : ¬ (((k : Nat) : Int) < 0) := h1
    refine az_to 4 (pc2 := 10) (lv2 := [some (az_r 9), some (az_i (((k : Nat) : Int)))]) (st2 := [az_i (6), az_i (((k : Nat) : Int))]) (s2 := s) rfl ?_
    refine az_if2 22 13 rfl (by decide) (by first | assumption | exact ⟨by omega, by omega⟩) ⟨by decide, by decide⟩ (fun h2 => ?_) (fun h2 => ?_)
    · have h2 : 6 ≤ ((k : Nat) : Int) := h2
      exact absurd h2 (by omega)
    · have h2 : ¬ (6 ≤ ((k : Nat) : Int)) := h2
      refine az_to 3 (pc2 := 18) (lv2 := [some (az_r 9), some (az_i (((k : Nat) : Int)))]) (st2 := [az_i (((k : Nat) : Int)), az_r 10]) (s2 := s) rfl ?_
      refine az_ld_i 19 rfl rfl (by constructor <;> omega) ⟨by decide, rfl⟩ ?_
      refine az_to 1 (pc2 := 23) (lv2 := [some (az_r 9), some (az_i (((k : Nat) : Int)))]) (st2 := [az_i (s 10 k)]) (s2 := s) rfl ?_
      refine az_retI rfl rfl ?_
      exact ⟨rfl, rfl⟩
set_option maxRecDepth 100000 in
set_option maxHeartbeats 800000 in
theorem zs_X5_put_9 {d : Nat} {s : az_S} (hd : 0 ≤ d) {k : Nat} {v : Int} (hk : k < 6) : az_R d am_m_X5_put 0 (az_ini (am_mL am_m_X5_put) [az_r 9, az_i (((k : Nat) : Int)), az_i (v)]) [] (s) (az_ret (none) (am_up s 10 k v)) := by
  refine az_to 0 (pc2 := 0) (lv2 := [some (az_r 9), some (az_i (((k : Nat) : Int))), some (az_i (v))]) (st2 := []) (s2 := s) rfl ?_
  refine az_to 1 (pc2 := 1) (lv2 := [some (az_r 9), some (az_i (((k : Nat) : Int))), some (az_i (v))]) (st2 := [az_i (((k : Nat) : Int))]) (s2 := s) rfl ?_
  refine az_ifc 20 4 rfl (by decide) (by first | assumption | exact ⟨by omega, by omega⟩) (fun h1 => ?_) (fun h1 => ?_)
  · have h1 : ((k : Nat) : Int) < 0 := h1
    exact absurd h1 (by omega)
  · have h1 : ¬ (((k : Nat) : Int) < 0) := h1
    refine az_to 4 (pc2 := 10) (lv2 := [some (az_r 9), some (az_i (((k : Nat) : Int))), some (az_i (v))]) (st2 := [az_i (6), az_i (((k : Nat) : Int))]) (s2 := s) rfl ?_
    refine az_if2 20 13 rfl (by decide) (by first | assumption | exact ⟨by omega, by omega⟩) ⟨by decide, by decide⟩ (fun h2 => ?_) (fun h2 => ?_)
    · have h2 : 6 ≤ ((k : Nat) : Int) := h2
      exact absurd h2 (by omega)
    · have h2 : ¬ (6 ≤ ((k : Nat) : Int)) := h2
      refine az_to 4 (pc2 := 19) (lv2 := [some (az_r 9), some (az_i (((k : Nat) : Int))), some (az_i (v))]) (st2 := [az_i (v), az_i (((k : Nat) : Int)), az_r 10]) (s2 := s) rfl ?_
      refine az_st_i 20 rfl rfl (by constructor <;> omega) ⟨by decide, rfl⟩ ?_
      refine az_ret0 rfl rfl ?_
      exact ⟨rfl, rfl⟩
set_option maxRecDepth 100000 in
set_option maxHeartbeats 800000 in
theorem zs_X5_at_11 {d : Nat} {s : az_S} (hd : 0 ≤ d) {k : Nat} (hk : k < 6) : az_R d am_m_X5_at 0 (az_ini (am_mL am_m_X5_at) [az_r 11, az_i (((k : Nat) : Int))]) [] (s) (az_ret (some (az_i (s 12 k))) (s)) := by
  refine az_to 0 (pc2 := 0) (lv2 := [some (az_r 11), some (az_i (((k : Nat) : Int)))]) (st2 := []) (s2 := s) rfl ?_
  refine az_to 1 (pc2 := 1) (lv2 := [some (az_r 11), some (az_i (((k : Nat) : Int)))]) (st2 := [az_i (((k : Nat) : Int))]) (s2 := s) rfl ?_
  refine az_ifc 22 4 rfl (by decide) (by first | assumption | exact ⟨by omega, by omega⟩) (fun h1 => ?_) (fun h1 => ?_)
  · have h1 : ((k : Nat) : Int) < 0 := h1
    exact absurd h1 (by omega)
  · have h1 : ¬ (((k : Nat) : Int) < 0) := h1
    refine az_to 4 (pc2 := 10) (lv2 := [some (az_r 11), some (az_i (((k : Nat) : Int)))]) (st2 := [az_i (6), az_i (((k : Nat) : Int))]) (s2 := s) rfl ?_
    refine az_if2 22 13 rfl (by decide) (by first | assumption | exact ⟨by omega, by omega⟩) ⟨by decide, by decide⟩ (fun h2 => ?_) (fun h2 => ?_)
    · have h2 : 6 ≤ ((k : Nat) : Int) := h2
      exact absurd h2 (by omega)
    · have h2 : ¬ (6 ≤ ((k : Nat) : Int)) := h2
      refine az_to 3 (pc2 := 18) (lv2 := [some (az_r 11), some (az_i (((k : Nat) : Int)))]) (st2 := [az_i (((k : Nat) : Int)), az_r 12]) (s2 := s) rfl ?_
      refine az_ld_i 19 rfl rfl (by constructor <;> omega) ⟨by decide, rfl⟩ ?_
      refine az_to 1 (pc2 := 23) (lv2 := [some (az_r 11), some (az_i (((k : Nat) : Int)))]) (st2 := [az_i (s 12 k)]) (s2 := s) rfl ?_
      refine az_retI rfl rfl ?_
      exact ⟨rfl, rfl⟩
set_option maxRecDepth 100000 in
set_option maxHeartbeats 800000 in
theorem zs_X5_put_11 {d : Nat} {s : az_S} (hd : 0 ≤ d) {k : Nat} {v : Int} (hk : k < 6) : az_R d am_m_X5_put 0 (az_ini (am_mL am_m_X5_put) [az_r 11, az_i (((k : Nat) : Int)), az_i (v)]) [] (s) (az_ret (none) (am_up s 12 k v)) := by
  refine az_to 0 (pc2 := 0) (lv2 := [some (az_r 11), some (az_i (((k : Nat) : Int))), some (az_i (v))]) (st2 := []) (s2 := s) rfl ?_
  refine az_to 1 (pc2 := 1) (lv2 := [some (az_r 11), some (az_i (((k : Nat) : Int))), some (az_i (v))]) (st2 := [az_i (((k : Nat) : Int))]) (s2 := s) rfl ?_
  refine az_ifc 20 4 rfl (by decide) (by first | assumption | exact ⟨by omega, by omega⟩) (fun h1 => ?_) (fun h1 => ?_)
  · have h1 : ((k : Nat) : Int) < 0 := h1
    exact absurd h1 (by omega)
  · have h1 : ¬ (((k : Nat) : Int) < 0) := h1
    refine az_to 4 (pc2 := 10) (lv2 := [some (az_r 11), some (az_i (((k : Nat) : Int))), some (az_i (v))]) (st2 := [az_i (6), az_i (((k : Nat) : Int))]) (s2 := s) rfl ?_
    refine az_if2 20 13 rfl (by decide) (by first | assumption | exact ⟨by omega, by omega⟩) ⟨by decide, by decide⟩ (fun h2 => ?_) (fun h2 => ?_)
    · have h2 : 6 ≤ ((k : Nat) : Int) := h2
      exact absurd h2 (by omega)
    · have h2 : ¬ (6 ≤ ((k : Nat) : Int)) := h2
      refine az_to 4 (pc2 := 19) (lv2 := [some (az_r 11), some (az_i (((k : Nat) : Int))), some (az_i (v))]) (st2 := [az_i (v), az_i (((k : Nat) : Int)), az_r 12]) (s2 := s) rfl ?_
      refine az_st_i 20 rfl rfl (by constructor <;> omega) ⟨by decide, rfl⟩ ?_
      refine az_ret0 rfl rfl ?_
      exact ⟨rfl, rfl⟩
set_option maxRecDepth 100000 in
set_option maxHeartbeats 800000 in
theorem zs_X5_at_13 {d : Nat} {s : az_S} (hd : 0 ≤ d) {k : Nat} (hk : k < 6) : az_R d am_m_X5_at 0 (az_ini (am_mL am_m_X5_at) [az_r 13, az_i (((k : Nat) : Int))]) [] (s) (az_ret (some (az_i (s 14 k))) (s)) := by
  refine az_to 0 (pc2 := 0) (lv2 := [some (az_r 13), some (az_i (((k : Nat) : Int)))]) (st2 := []) (s2 := s) rfl ?_
  refine az_to 1 (pc2 := 1) (lv2 := [some (az_r 13), some (az_i (((k : Nat) : Int)))]) (st2 := [az_i (((k : Nat) : Int))]) (s2 := s) rfl ?_
  refine az_ifc 22 4 rfl (by decide) (by first | assumption | exact ⟨by omega, by omega⟩) (fun h1 => ?_) (fun h1 => ?_)
  · have h1 : ((k : Nat) : Int) < 0 := h1
    exact absurd h1 (by omega)
  · have h1 : ¬ (((k : Nat) : Int) < 0) := h1
    refine az_to 4 (pc2 := 10) (lv2 := [some (az_r 13), some (az_i (((k : Nat) : Int)))]) (st2 := [az_i (6), az_i (((k : Nat) : Int))]) (s2 := s) rfl ?_
    refine az_if2 22 13 rfl (by decide) (by first | assumption | exact ⟨by omega, by omega⟩) ⟨by decide, by decide⟩ (fun h2 => ?_) (fun h2 => ?_)
    · have h2 : 6 ≤ ((k : Nat) : Int) := h2
      exact absurd h2 (by omega)
    · have h2 : ¬ (6 ≤ ((k : Nat) : Int)) := h2
      refine az_to 3 (pc2 := 18) (lv2 := [some (az_r 13), some (az_i (((k : Nat) : Int)))]) (st2 := [az_i (((k : Nat) : Int)), az_r 14]) (s2 := s) rfl ?_
      refine az_ld_i 19 rfl rfl (by constructor <;> omega) ⟨by decide, rfl⟩ ?_
      refine az_to 1 (pc2 := 23) (lv2 := [some (az_r 13), some (az_i (((k : Nat) : Int)))]) (st2 := [az_i (s 14 k)]) (s2 := s) rfl ?_
      refine az_retI rfl rfl ?_
      exact ⟨rfl, rfl⟩
set_option maxRecDepth 100000 in
set_option maxHeartbeats 800000 in
theorem zs_X5_put_13 {d : Nat} {s : az_S} (hd : 0 ≤ d) {k : Nat} {v : Int} (hk : k < 6) : az_R d am_m_X5_put 0 (az_ini (am_mL am_m_X5_put) [az_r 13, az_i (((k : Nat) : Int)), az_i (v)]) [] (s) (az_ret (none) (am_up s 14 k v)) := by
  refine az_to 0 (pc2 := 0) (lv2 := [some (az_r 13), some (az_i (((k : Nat) : Int))), some (az_i (v))]) (st2 := []) (s2 := s) rfl ?_
  refine az_to 1 (pc2 := 1) (lv2 := [some (az_r 13), some (az_i (((k : Nat) : Int))), some (az_i (v))]) (st2 := [az_i (((k : Nat) : Int))]) (s2 := s) rfl ?_
  refine az_ifc 20 4 rfl (by decide) (by first | assumption | exact ⟨by omega, by omega⟩) (fun h1 => ?_) (fun h1 => ?_)
  · have h1 : ((k : Nat) : Int) < 0 := h1
    exact absurd h1 (by omega)
  · have h1 : ¬ (((k : Nat) : Int) < 0) := h1
    refine az_to 4 (pc2 := 10) (lv2 := [some (az_r 13), some (az_i (((k : Nat) : Int))), some (az_i (v))]) (st2 := [az_i (6), az_i (((k : Nat) : Int))]) (s2 := s) rfl ?_
    refine az_if2 20 13 rfl (by decide) (by first | assumption | exact ⟨by omega, by omega⟩) ⟨by decide, by decide⟩ (fun h2 => ?_) (fun h2 => ?_)
    · have h2 : 6 ≤ ((k : Nat) : Int) := h2
      exact absurd h2 (by omega)
    · have h2 : ¬ (6 ≤ ((k : Nat) : Int)) := h2
      refine az_to 4 (pc2 := 19) (lv2 := [some (az_r 13), some (az_i (((k : Nat) : Int))), some (az_i (v))]) (st2 := [az_i (v), az_i (((k : Nat) : Int)), az_r 14]) (s2 := s) rfl ?_
      refine az_st_i 20 rfl rfl (by constructor <;> omega) ⟨by decide, rfl⟩ ?_
      refine az_ret0 rfl rfl ?_
      exact ⟨rfl, rfl⟩
set_option maxRecDepth 100000 in
set_option maxHeartbeats 800000 in
theorem zs_X5_at_15 {d : Nat} {s : az_S} (hd : 0 ≤ d) {k : Nat} (hk : k < 6) : az_R d am_m_X5_at 0 (az_ini (am_mL am_m_X5_at) [az_r 15, az_i (((k : Nat) : Int))]) [] (s) (az_ret (some (az_i (s 16 k))) (s)) := by
  refine az_to 0 (pc2 := 0) (lv2 := [some (az_r 15), some (az_i (((k : Nat) : Int)))]) (st2 := []) (s2 := s) rfl ?_
  refine az_to 1 (pc2 := 1) (lv2 := [some (az_r 15), some (az_i (((k : Nat) : Int)))]) (st2 := [az_i (((k : Nat) : Int))]) (s2 := s) rfl ?_
  refine az_ifc 22 4 rfl (by decide) (by first | assumption | exact ⟨by omega, by omega⟩) (fun h1 => ?_) (fun h1 => ?_)
  · have h1 : ((k : Nat) : Int) < 0 := h1
    exact absurd h1 (by omega)
  · have h1 : ¬ (((k : Nat) : Int) < 0) := h1
    refine az_to 4 (pc2 := 10) (lv2 := [some (az_r 15), some (az_i (((k : Nat) : Int)))]) (st2 := [az_i (6), az_i (((k : Nat) : Int))]) (s2 := s) rfl ?_
    refine az_if2 22 13 rfl (by decide) (by first | assumption | exact ⟨by omega, by omega⟩) ⟨by decide, by decide⟩ (fun h2 => ?_) (fun h2 => ?_)
    · have h2 : 6 ≤ ((k : Nat) : Int) := h2
      exact absurd h2 (by omega)
    · have h2 : ¬ (6 ≤ ((k : Nat) : Int)) := h2
      refine az_to 3 (pc2 := 18) (lv2 := [some (az_r 15), some (az_i (((k : Nat) : Int)))]) (st2 := [az_i (((k : Nat) : Int)), az_r 16]) (s2 := s) rfl ?_
      refine az_ld_i 19 rfl rfl (by constructor <;> omega) ⟨by decide, rfl⟩ ?_
      refine az_to 1 (pc2 := 23) (lv2 := [some (az_r 15), some (az_i (((k : Nat) : Int)))]) (st2 := [az_i (s 16 k)]) (s2 := s) rfl ?_
      refine az_retI rfl rfl ?_
      exact ⟨rfl, rfl⟩
set_option maxRecDepth 100000 in
set_option maxHeartbeats 800000 in
theorem zs_X5_put_15 {d : Nat} {s : az_S} (hd : 0 ≤ d) {k : Nat} {v : Int} (hk : k < 6) : az_R d am_m_X5_put 0 (az_ini (am_mL am_m_X5_put) [az_r 15, az_i (((k : Nat) : Int)), az_i (v)]) [] (s) (az_ret (none) (am_up s 16 k v)) := by
  refine az_to 0 (pc2 := 0) (lv2 := [some (az_r 15), some (az_i (((k : Nat) : Int))), some (az_i (v))]) (st2 := []) (s2 := s) rfl ?_
  refine az_to 1 (pc2 := 1) (lv2 := [some (az_r 15), some (az_i (((k : Nat) : Int))), some (az_i (v))]) (st2 := [az_i (((k : Nat) : Int))]) (s2 := s) rfl ?_
  refine az_ifc 20 4 rfl (by decide) (by first | assumption | exact ⟨by omega, by omega⟩) (fun h1 => ?_) (fun h1 => ?_)
  · have h1 : ((k : Nat) : Int) < 0 := h1
    exact absurd h1 (by omega)
  · have h1 : ¬ (((k : Nat) : Int) < 0) := h1
    refine az_to 4 (pc2 := 10) (lv2 := [some (az_r 15), some (az_i (((k : Nat) : Int))), some (az_i (v))]) (st2 := [az_i (6), az_i (((k : Nat) : Int))]) (s2 := s) rfl ?_
    refine az_if2 20 13 rfl (by decide) (by first | assumption | exact ⟨by omega, by omega⟩) ⟨by decide, by decide⟩ (fun h2 => ?_) (fun h2 => ?_)
    · have h2 : 6 ≤ ((k : Nat) : Int) := h2
      exact absurd h2 (by omega)
    · have h2 : ¬ (6 ≤ ((k : Nat) : Int)) := h2
      refine az_to 4 (pc2 := 19) (lv2 := [some (az_r 15), some (az_i (((k : Nat) : Int))), some (az_i (v))]) (st2 := [az_i (v), az_i (((k : Nat) : Int)), az_r 16]) (s2 := s) rfl ?_
      refine az_st_i 20 rfl rfl (by constructor <;> omega) ⟨by decide, rfl⟩ ?_
      refine az_ret0 rfl rfl ?_
      exact ⟨rfl, rfl⟩
set_option maxRecDepth 100000 in
set_option maxHeartbeats 800000 in
theorem zs_X5_at_18 {d : Nat} {s : az_S} (hd : 0 ≤ d) {k : Nat} (hk : k < 1656) : az_R d am_m_X5_at 0 (az_ini (am_mL am_m_X5_at) [az_r 18, az_i (((k : Nat) : Int))]) [] (s) (az_ret (some (az_i (s 19 k))) (s)) := by
  refine az_to 0 (pc2 := 0) (lv2 := [some (az_r 18), some (az_i (((k : Nat) : Int)))]) (st2 := []) (s2 := s) rfl ?_
  refine az_to 1 (pc2 := 1) (lv2 := [some (az_r 18), some (az_i (((k : Nat) : Int)))]) (st2 := [az_i (((k : Nat) : Int))]) (s2 := s) rfl ?_
  refine az_ifc 22 4 rfl (by decide) (by first | assumption | exact ⟨by omega, by omega⟩) (fun h1 => ?_) (fun h1 => ?_)
  · have h1 : ((k : Nat) : Int) < 0 := h1
    exact absurd h1 (by omega)
  · have h1 : ¬ (((k : Nat) : Int) < 0) := h1
    refine az_to 4 (pc2 := 10) (lv2 := [some (az_r 18), some (az_i (((k : Nat) : Int)))]) (st2 := [az_i (1656), az_i (((k : Nat) : Int))]) (s2 := s) rfl ?_
    refine az_if2 22 13 rfl (by decide) (by first | assumption | exact ⟨by omega, by omega⟩) ⟨by decide, by decide⟩ (fun h2 => ?_) (fun h2 => ?_)
    · have h2 : 1656 ≤ ((k : Nat) : Int) := h2
      exact absurd h2 (by omega)
    · have h2 : ¬ (1656 ≤ ((k : Nat) : Int)) := h2
      refine az_to 3 (pc2 := 18) (lv2 := [some (az_r 18), some (az_i (((k : Nat) : Int)))]) (st2 := [az_i (((k : Nat) : Int)), az_r 19]) (s2 := s) rfl ?_
      refine az_ld_i 19 rfl rfl (by constructor <;> omega) ⟨by decide, rfl⟩ ?_
      refine az_to 1 (pc2 := 23) (lv2 := [some (az_r 18), some (az_i (((k : Nat) : Int)))]) (st2 := [az_i (s 19 k)]) (s2 := s) rfl ?_
      refine az_retI rfl rfl ?_
      exact ⟨rfl, rfl⟩
set_option maxRecDepth 100000 in
set_option maxHeartbeats 800000 in
theorem zs_X5_put_18 {d : Nat} {s : az_S} (hd : 0 ≤ d) {k : Nat} {v : Int} (hk : k < 1656) : az_R d am_m_X5_put 0 (az_ini (am_mL am_m_X5_put) [az_r 18, az_i (((k : Nat) : Int)), az_i (v)]) [] (s) (az_ret (none) (am_up s 19 k v)) := by
  refine az_to 0 (pc2 := 0) (lv2 := [some (az_r 18), some (az_i (((k : Nat) : Int))), some (az_i (v))]) (st2 := []) (s2 := s) rfl ?_
  refine az_to 1 (pc2 := 1) (lv2 := [some (az_r 18), some (az_i (((k : Nat) : Int))), some (az_i (v))]) (st2 := [az_i (((k : Nat) : Int))]) (s2 := s) rfl ?_
  refine az_ifc 20 4 rfl (by decide) (by first | assumption | exact ⟨by omega, by omega⟩) (fun h1 => ?_) (fun h1 => ?_)
  · have h1 : ((k : Nat) : Int) < 0 := h1
    exact absurd h1 (by omega)
  · have h1 : ¬ (((k : Nat) : Int) < 0) := h1
    refine az_to 4 (pc2 := 10) (lv2 := [some (az_r 18), some (az_i (((k : Nat) : Int))), some (az_i (v))]) (st2 := [az_i (1656), az_i (((k : Nat) : Int))]) (s2 := s) rfl ?_
    refine az_if2 20 13 rfl (by decide) (by first | assumption | exact ⟨by omega, by omega⟩) ⟨by decide, by decide⟩ (fun h2 => ?_) (fun h2 => ?_)
    · have h2 : 1656 ≤ ((k : Nat) : Int) := h2
      exact absurd h2 (by omega)
    · have h2 : ¬ (1656 ≤ ((k : Nat) : Int)) := h2
      refine az_to 4 (pc2 := 19) (lv2 := [some (az_r 18), some (az_i (((k : Nat) : Int))), some (az_i (v))]) (st2 := [az_i (v), az_i (((k : Nat) : Int)), az_r 19]) (s2 := s) rfl ?_
      refine az_st_i 20 rfl rfl (by constructor <;> omega) ⟨by decide, rfl⟩ ?_
      refine az_ret0 rfl rfl ?_
      exact ⟨rfl, rfl⟩
set_option maxRecDepth 100000 in
set_option maxHeartbeats 800000 in
theorem zs_X5_at_20 {d : Nat} {s : az_S} (hd : 0 ≤ d) {k : Nat} (hk : k < 184) : az_R d am_m_X5_at 0 (az_ini (am_mL am_m_X5_at) [az_r 20, az_i (((k : Nat) : Int))]) [] (s) (az_ret (some (az_i (s 21 k))) (s)) := by
  refine az_to 0 (pc2 := 0) (lv2 := [some (az_r 20), some (az_i (((k : Nat) : Int)))]) (st2 := []) (s2 := s) rfl ?_
  refine az_to 1 (pc2 := 1) (lv2 := [some (az_r 20), some (az_i (((k : Nat) : Int)))]) (st2 := [az_i (((k : Nat) : Int))]) (s2 := s) rfl ?_
  refine az_ifc 22 4 rfl (by decide) (by first | assumption | exact ⟨by omega, by omega⟩) (fun h1 => ?_) (fun h1 => ?_)
  · have h1 : ((k : Nat) : Int) < 0 := h1
    exact absurd h1 (by omega)
  · have h1 : ¬ (((k : Nat) : Int) < 0) := h1
    refine az_to 4 (pc2 := 10) (lv2 := [some (az_r 20), some (az_i (((k : Nat) : Int)))]) (st2 := [az_i (184), az_i (((k : Nat) : Int))]) (s2 := s) rfl ?_
    refine az_if2 22 13 rfl (by decide) (by first | assumption | exact ⟨by omega, by omega⟩) ⟨by decide, by decide⟩ (fun h2 => ?_) (fun h2 => ?_)
    · have h2 : 184 ≤ ((k : Nat) : Int) := h2
      exact absurd h2 (by omega)
    · have h2 : ¬ (184 ≤ ((k : Nat) : Int)) := h2
      refine az_to 3 (pc2 := 18) (lv2 := [some (az_r 20), some (az_i (((k : Nat) : Int)))]) (st2 := [az_i (((k : Nat) : Int)), az_r 21]) (s2 := s) rfl ?_
      refine az_ld_i 19 rfl rfl (by constructor <;> omega) ⟨by decide, rfl⟩ ?_
      refine az_to 1 (pc2 := 23) (lv2 := [some (az_r 20), some (az_i (((k : Nat) : Int)))]) (st2 := [az_i (s 21 k)]) (s2 := s) rfl ?_
      refine az_retI rfl rfl ?_
      exact ⟨rfl, rfl⟩
set_option maxRecDepth 100000 in
set_option maxHeartbeats 800000 in
theorem zs_X5_put_20 {d : Nat} {s : az_S} (hd : 0 ≤ d) {k : Nat} {v : Int} (hk : k < 184) : az_R d am_m_X5_put 0 (az_ini (am_mL am_m_X5_put) [az_r 20, az_i (((k : Nat) : Int)), az_i (v)]) [] (s) (az_ret (none) (am_up s 21 k v)) := by
  refine az_to 0 (pc2 := 0) (lv2 := [some (az_r 20), some (az_i (((k : Nat) : Int))), some (az_i (v))]) (st2 := []) (s2 := s) rfl ?_
  refine az_to 1 (pc2 := 1) (lv2 := [some (az_r 20), some (az_i (((k : Nat) : Int))), some (az_i (v))]) (st2 := [az_i (((k : Nat) : Int))]) (s2 := s) rfl ?_
  refine az_ifc 20 4 rfl (by decide) (by first | assumption | exact ⟨by omega, by omega⟩) (fun h1 => ?_) (fun h1 => ?_)
  · have h1 : ((k : Nat) : Int) < 0 := h1
    exact absurd h1 (by omega)
  · have h1 : ¬ (((k : Nat) : Int) < 0) := h1
    refine az_to 4 (pc2 := 10) (lv2 := [some (az_r 20), some (az_i (((k : Nat) : Int))), some (az_i (v))]) (st2 := [az_i (184), az_i (((k : Nat) : Int))]) (s2 := s) rfl ?_
    refine az_if2 20 13 rfl (by decide) (by first | assumption | exact ⟨by omega, by omega⟩) ⟨by decide, by decide⟩ (fun h2 => ?_) (fun h2 => ?_)
    · have h2 : 184 ≤ ((k : Nat) : Int) := h2
      exact absurd h2 (by omega)
    · have h2 : ¬ (184 ≤ ((k : Nat) : Int)) := h2
      refine az_to 4 (pc2 := 19) (lv2 := [some (az_r 20), some (az_i (((k : Nat) : Int))), some (az_i (v))]) (st2 := [az_i (v), az_i (((k : Nat) : Int)), az_r 21]) (s2 := s) rfl ?_
      refine az_st_i 20 rfl rfl (by constructor <;> omega) ⟨by decide, rfl⟩ ?_
      refine az_ret0 rfl rfl ?_
      exact ⟨rfl, rfl⟩
set_option maxRecDepth 100000 in
set_option maxHeartbeats 800000 in
theorem zs_X5_at_23 {d : Nat} {s : az_S} (hd : 0 ≤ d) {k : Nat} (hk : k < 60) : az_R d am_m_X5_at 0 (az_ini (am_mL am_m_X5_at) [az_r 23, az_i (((k : Nat) : Int))]) [] (s) (az_ret (some (az_i (s 24 k))) (s)) := by
  refine az_to 0 (pc2 := 0) (lv2 := [some (az_r 23), some (az_i (((k : Nat) : Int)))]) (st2 := []) (s2 := s) rfl ?_
  refine az_to 1 (pc2 := 1) (lv2 := [some (az_r 23), some (az_i (((k : Nat) : Int)))]) (st2 := [az_i (((k : Nat) : Int))]) (s2 := s) rfl ?_
  refine az_ifc 22 4 rfl (by decide) (by first | assumption | exact ⟨by omega, by omega⟩) (fun h1 => ?_) (fun h1 => ?_)
  · have h1 : ((k : Nat) : Int) < 0 := h1
    exact absurd h1 (by omega)
  · have h1 : ¬ (((k : Nat) : Int) < 0) := h1
    refine az_to 4 (pc2 := 10) (lv2 := [some (az_r 23), some (az_i (((k : Nat) : Int)))]) (st2 := [az_i (60), az_i (((k : Nat) : Int))]) (s2 := s) rfl ?_
    refine az_if2 22 13 rfl (by decide) (by first | assumption | exact ⟨by omega, by omega⟩) ⟨by decide, by decide⟩ (fun h2 => ?_) (fun h2 => ?_)
    · have h2 : 60 ≤ ((k : Nat) : Int) := h2
      exact absurd h2 (by omega)
    · have h2 : ¬ (60 ≤ ((k : Nat) : Int)) := h2
      refine az_to 3 (pc2 := 18) (lv2 := [some (az_r 23), some (az_i (((k : Nat) : Int)))]) (st2 := [az_i (((k : Nat) : Int)), az_r 24]) (s2 := s) rfl ?_
      refine az_ld_i 19 rfl rfl (by constructor <;> omega) ⟨by decide, rfl⟩ ?_
      refine az_to 1 (pc2 := 23) (lv2 := [some (az_r 23), some (az_i (((k : Nat) : Int)))]) (st2 := [az_i (s 24 k)]) (s2 := s) rfl ?_
      refine az_retI rfl rfl ?_
      exact ⟨rfl, rfl⟩
set_option maxRecDepth 100000 in
set_option maxHeartbeats 800000 in
theorem zs_X5_put_23 {d : Nat} {s : az_S} (hd : 0 ≤ d) {k : Nat} {v : Int} (hk : k < 60) : az_R d am_m_X5_put 0 (az_ini (am_mL am_m_X5_put) [az_r 23, az_i (((k : Nat) : Int)), az_i (v)]) [] (s) (az_ret (none) (am_up s 24 k v)) := by
  refine az_to 0 (pc2 := 0) (lv2 := [some (az_r 23), some (az_i (((k : Nat) : Int))), some (az_i (v))]) (st2 := []) (s2 := s) rfl ?_
  refine az_to 1 (pc2 := 1) (lv2 := [some (az_r 23), some (az_i (((k : Nat) : Int))), some (az_i (v))]) (st2 := [az_i (((k : Nat) : Int))]) (s2 := s) rfl ?_
  refine az_ifc 20 4 rfl (by decide) (by first | assumption | exact ⟨by omega, by omega⟩) (fun h1 => ?_) (fun h1 => ?_)
  · have h1 : ((k : Nat) : Int) < 0 := h1
    exact absurd h1 (by omega)
  · have h1 : ¬ (((k : Nat) : Int) < 0) := h1
    refine az_to 4 (pc2 := 10) (lv2 := [some (az_r 23), some (az_i (((k : Nat) : Int))), some (az_i (v))]) (st2 := [az_i (60), az_i (((k : Nat) : Int))]) (s2 := s) rfl ?_
    refine az_if2 20 13 rfl (by decide) (by first | assumption | exact ⟨by omega, by omega⟩) ⟨by decide, by decide⟩ (fun h2 => ?_) (fun h2 => ?_)
    · have h2 : 60 ≤ ((k : Nat) : Int) := h2
      exact absurd h2 (by omega)
    · have h2 : ¬ (60 ≤ ((k : Nat) : Int)) := h2
      refine az_to 4 (pc2 := 19) (lv2 := [some (az_r 23), some (az_i (((k : Nat) : Int))), some (az_i (v))]) (st2 := [az_i (v), az_i (((k : Nat) : Int)), az_r 24]) (s2 := s) rfl ?_
      refine az_st_i 20 rfl rfl (by constructor <;> omega) ⟨by decide, rfl⟩ ?_
      refine az_ret0 rfl rfl ?_
      exact ⟨rfl, rfl⟩
set_option maxRecDepth 100000 in
set_option maxHeartbeats 800000 in
theorem zs_X5_at_26 {d : Nat} {s : az_S} (hd : 0 ≤ d) {k : Nat} (hk : k < 11) : az_R d am_m_X5_at 0 (az_ini (am_mL am_m_X5_at) [az_r 26, az_i (((k : Nat) : Int))]) [] (s) (az_ret (some (az_i (s 27 k))) (s)) := by
  refine az_to 0 (pc2 := 0) (lv2 := [some (az_r 26), some (az_i (((k : Nat) : Int)))]) (st2 := []) (s2 := s) rfl ?_
  refine az_to 1 (pc2 := 1) (lv2 := [some (az_r 26), some (az_i (((k : Nat) : Int)))]) (st2 := [az_i (((k : Nat) : Int))]) (s2 := s) rfl ?_
  refine az_ifc 22 4 rfl (by decide) (by first | assumption | exact ⟨by omega, by omega⟩) (fun h1 => ?_) (fun h1 => ?_)
  · have h1 : ((k : Nat) : Int) < 0 := h1
    exact absurd h1 (by omega)
  · have h1 : ¬ (((k : Nat) : Int) < 0) := h1
    refine az_to 4 (pc2 := 10) (lv2 := [some (az_r 26), some (az_i (((k : Nat) : Int)))]) (st2 := [az_i (11), az_i (((k : Nat) : Int))]) (s2 := s) rfl ?_
    refine az_if2 22 13 rfl (by decide) (by first | assumption | exact ⟨by omega, by omega⟩) ⟨by decide, by decide⟩ (fun h2 => ?_) (fun h2 => ?_)
    · have h2 : 11 ≤ ((k : Nat) : Int) := h2
      exact absurd h2 (by omega)
    · have h2 : ¬ (11 ≤ ((k : Nat) : Int)) := h2
      refine az_to 3 (pc2 := 18) (lv2 := [some (az_r 26), some (az_i (((k : Nat) : Int)))]) (st2 := [az_i (((k : Nat) : Int)), az_r 27]) (s2 := s) rfl ?_
      refine az_ld_i 19 rfl rfl (by constructor <;> omega) ⟨by decide, rfl⟩ ?_
      refine az_to 1 (pc2 := 23) (lv2 := [some (az_r 26), some (az_i (((k : Nat) : Int)))]) (st2 := [az_i (s 27 k)]) (s2 := s) rfl ?_
      refine az_retI rfl rfl ?_
      exact ⟨rfl, rfl⟩
set_option maxRecDepth 100000 in
set_option maxHeartbeats 800000 in
theorem zs_X5_put_26 {d : Nat} {s : az_S} (hd : 0 ≤ d) {k : Nat} {v : Int} (hk : k < 11) : az_R d am_m_X5_put 0 (az_ini (am_mL am_m_X5_put) [az_r 26, az_i (((k : Nat) : Int)), az_i (v)]) [] (s) (az_ret (none) (am_up s 27 k v)) := by
  refine az_to 0 (pc2 := 0) (lv2 := [some (az_r 26), some (az_i (((k : Nat) : Int))), some (az_i (v))]) (st2 := []) (s2 := s) rfl ?_
  refine az_to 1 (pc2 := 1) (lv2 := [some (az_r 26), some (az_i (((k : Nat) : Int))), some (az_i (v))]) (st2 := [az_i (((k : Nat) : Int))]) (s2 := s) rfl ?_
  refine az_ifc 20 4 rfl (by decide) (by first | assumption | exact ⟨by omega, by omega⟩) (fun h1 => ?_) (fun h1 => ?_)
  · have h1 : ((k : Nat) : Int) < 0 := h1
    exact absurd h1 (by omega)
  · have h1 : ¬ (((k : Nat) : Int) < 0) := h1
    refine az_to 4 (pc2 := 10) (lv2 := [some (az_r 26), some (az_i (((k : Nat) : Int))), some (az_i (v))]) (st2 := [az_i (11), az_i (((k : Nat) : Int))]) (s2 := s) rfl ?_
    refine az_if2 20 13 rfl (by decide) (by first | assumption | exact ⟨by omega, by omega⟩) ⟨by decide, by decide⟩ (fun h2 => ?_) (fun h2 => ?_)
    · have h2 : 11 ≤ ((k : Nat) : Int) := h2
      exact absurd h2 (by omega)
    · have h2 : ¬ (11 ≤ ((k : Nat) : Int)) := h2
      refine az_to 4 (pc2 := 19) (lv2 := [some (az_r 26), some (az_i (((k : Nat) : Int))), some (az_i (v))]) (st2 := [az_i (v), az_i (((k : Nat) : Int)), az_r 27]) (s2 := s) rfl ?_
      refine az_st_i 20 rfl rfl (by constructor <;> omega) ⟨by decide, rfl⟩ ?_
      refine az_ret0 rfl rfl ?_
      exact ⟨rfl, rfl⟩
set_option maxRecDepth 100000 in
set_option maxHeartbeats 800000 in
theorem zs_X5_at_28 {d : Nat} {s : az_S} (hd : 0 ≤ d) {k : Nat} (hk : k < 44) : az_R d am_m_X5_at 0 (az_ini (am_mL am_m_X5_at) [az_r 28, az_i (((k : Nat) : Int))]) [] (s) (az_ret (some (az_i (s 29 k))) (s)) := by
  refine az_to 0 (pc2 := 0) (lv2 := [some (az_r 28), some (az_i (((k : Nat) : Int)))]) (st2 := []) (s2 := s) rfl ?_
  refine az_to 1 (pc2 := 1) (lv2 := [some (az_r 28), some (az_i (((k : Nat) : Int)))]) (st2 := [az_i (((k : Nat) : Int))]) (s2 := s) rfl ?_
  refine az_ifc 22 4 rfl (by decide) (by first | assumption | exact ⟨by omega, by omega⟩) (fun h1 => ?_) (fun h1 => ?_)
  · have h1 : ((k : Nat) : Int) < 0 := h1
    exact absurd h1 (by omega)
  · have h1 : ¬ (((k : Nat) : Int) < 0) := h1
    refine az_to 4 (pc2 := 10) (lv2 := [some (az_r 28), some (az_i (((k : Nat) : Int)))]) (st2 := [az_i (44), az_i (((k : Nat) : Int))]) (s2 := s) rfl ?_
    refine az_if2 22 13 rfl (by decide) (by first | assumption | exact ⟨by omega, by omega⟩) ⟨by decide, by decide⟩ (fun h2 => ?_) (fun h2 => ?_)
    · have h2 : 44 ≤ ((k : Nat) : Int) := h2
      exact absurd h2 (by omega)
    · have h2 : ¬ (44 ≤ ((k : Nat) : Int)) := h2
      refine az_to 3 (pc2 := 18) (lv2 := [some (az_r 28), some (az_i (((k : Nat) : Int)))]) (st2 := [az_i (((k : Nat) : Int)), az_r 29]) (s2 := s) rfl ?_
      refine az_ld_i 19 rfl rfl (by constructor <;> omega) ⟨by decide, rfl⟩ ?_
      refine az_to 1 (pc2 := 23) (lv2 := [some (az_r 28), some (az_i (((k : Nat) : Int)))]) (st2 := [az_i (s 29 k)]) (s2 := s) rfl ?_
      refine az_retI rfl rfl ?_
      exact ⟨rfl, rfl⟩
set_option maxRecDepth 100000 in
set_option maxHeartbeats 800000 in
theorem zs_X5_put_28 {d : Nat} {s : az_S} (hd : 0 ≤ d) {k : Nat} {v : Int} (hk : k < 44) : az_R d am_m_X5_put 0 (az_ini (am_mL am_m_X5_put) [az_r 28, az_i (((k : Nat) : Int)), az_i (v)]) [] (s) (az_ret (none) (am_up s 29 k v)) := by
  refine az_to 0 (pc2 := 0) (lv2 := [some (az_r 28), some (az_i (((k : Nat) : Int))), some (az_i (v))]) (st2 := []) (s2 := s) rfl ?_
  refine az_to 1 (pc2 := 1) (lv2 := [some (az_r 28), some (az_i (((k : Nat) : Int))), some (az_i (v))]) (st2 := [az_i (((k : Nat) : Int))]) (s2 := s) rfl ?_
  refine az_ifc 20 4 rfl (by decide) (by first | assumption | exact ⟨by omega, by omega⟩) (fun h1 => ?_) (fun h1 => ?_)
  · have h1 : ((k : Nat) : Int) < 0 := h1
    exact absurd h1 (by omega)
  · have h1 : ¬ (((k : Nat) : Int) < 0) := h1
    refine az_to 4 (pc2 := 10) (lv2 := [some (az_r 28), some (az_i (((k : Nat) : Int))), some (az_i (v))]) (st2 := [az_i (44), az_i (((k : Nat) : Int))]) (s2 := s) rfl ?_
    refine az_if2 20 13 rfl (by decide) (by first | assumption | exact ⟨by omega, by omega⟩) ⟨by decide, by decide⟩ (fun h2 => ?_) (fun h2 => ?_)
    · have h2 : 44 ≤ ((k : Nat) : Int) := h2
      exact absurd h2 (by omega)
    · have h2 : ¬ (44 ≤ ((k : Nat) : Int)) := h2
      refine az_to 4 (pc2 := 19) (lv2 := [some (az_r 28), some (az_i (((k : Nat) : Int))), some (az_i (v))]) (st2 := [az_i (v), az_i (((k : Nat) : Int)), az_r 29]) (s2 := s) rfl ?_
      refine az_st_i 20 rfl rfl (by constructor <;> omega) ⟨by decide, rfl⟩ ?_
      refine az_ret0 rfl rfl ?_
      exact ⟨rfl, rfl⟩
set_option maxRecDepth 100000 in
set_option maxHeartbeats 800000 in
theorem zs_X5_at_31 {d : Nat} {s : az_S} (hd : 0 ≤ d) {k : Nat} (hk : k < 16) : az_R d am_m_X5_at 0 (az_ini (am_mL am_m_X5_at) [az_r 31, az_i (((k : Nat) : Int))]) [] (s) (az_ret (some (az_i (s 32 k))) (s)) := by
  refine az_to 0 (pc2 := 0) (lv2 := [some (az_r 31), some (az_i (((k : Nat) : Int)))]) (st2 := []) (s2 := s) rfl ?_
  refine az_to 1 (pc2 := 1) (lv2 := [some (az_r 31), some (az_i (((k : Nat) : Int)))]) (st2 := [az_i (((k : Nat) : Int))]) (s2 := s) rfl ?_
  refine az_ifc 22 4 rfl (by decide) (by first | assumption | exact ⟨by omega, by omega⟩) (fun h1 => ?_) (fun h1 => ?_)
  · have h1 : ((k : Nat) : Int) < 0 := h1
    exact absurd h1 (by omega)
  · have h1 : ¬ (((k : Nat) : Int) < 0) := h1
    refine az_to 4 (pc2 := 10) (lv2 := [some (az_r 31), some (az_i (((k : Nat) : Int)))]) (st2 := [az_i (16), az_i (((k : Nat) : Int))]) (s2 := s) rfl ?_
    refine az_if2 22 13 rfl (by decide) (by first | assumption | exact ⟨by omega, by omega⟩) ⟨by decide, by decide⟩ (fun h2 => ?_) (fun h2 => ?_)
    · have h2 : 16 ≤ ((k : Nat) : Int) := h2
      exact absurd h2 (by omega)
    · have h2 : ¬ (16 ≤ ((k : Nat) : Int)) := h2
      refine az_to 3 (pc2 := 18) (lv2 := [some (az_r 31), some (az_i (((k : Nat) : Int)))]) (st2 := [az_i (((k : Nat) : Int)), az_r 32]) (s2 := s) rfl ?_
      refine az_ld_i 19 rfl rfl (by constructor <;> omega) ⟨by decide, rfl⟩ ?_
      refine az_to 1 (pc2 := 23) (lv2 := [some (az_r 31), some (az_i (((k : Nat) : Int)))]) (st2 := [az_i (s 32 k)]) (s2 := s) rfl ?_
      refine az_retI rfl rfl ?_
      exact ⟨rfl, rfl⟩
set_option maxRecDepth 100000 in
set_option maxHeartbeats 800000 in
theorem zs_X5_put_31 {d : Nat} {s : az_S} (hd : 0 ≤ d) {k : Nat} {v : Int} (hk : k < 16) : az_R d am_m_X5_put 0 (az_ini (am_mL am_m_X5_put) [az_r 31, az_i (((k : Nat) : Int)), az_i (v)]) [] (s) (az_ret (none) (am_up s 32 k v)) := by
  refine az_to 0 (pc2 := 0) (lv2 := [some (az_r 31), some (az_i (((k : Nat) : Int))), some (az_i (v))]) (st2 := []) (s2 := s) rfl ?_
  refine az_to 1 (pc2 := 1) (lv2 := [some (az_r 31), some (az_i (((k : Nat) : Int))), some (az_i (v))]) (st2 := [az_i (((k : Nat) : Int))]) (s2 := s) rfl ?_
  refine az_ifc 20 4 rfl (by decide) (by first | assumption | exact ⟨by omega, by omega⟩) (fun h1 => ?_) (fun h1 => ?_)
  · have h1 : ((k : Nat) : Int) < 0 := h1
    exact absurd h1 (by omega)
  · have h1 : ¬ (((k : Nat) : Int) < 0) := h1
    refine az_to 4 (pc2 := 10) (lv2 := [some (az_r 31), some (az_i (((k : Nat) : Int))), some (az_i (v))]) (st2 := [az_i (16), az_i (((k : Nat) : Int))]) (s2 := s) rfl ?_
    refine az_if2 20 13 rfl (by decide) (by first | assumption | exact ⟨by omega, by omega⟩) ⟨by decide, by decide⟩ (fun h2 => ?_) (fun h2 => ?_)
    · have h2 : 16 ≤ ((k : Nat) : Int) := h2
      exact absurd h2 (by omega)
    · have h2 : ¬ (16 ≤ ((k : Nat) : Int)) := h2
      refine az_to 4 (pc2 := 19) (lv2 := [some (az_r 31), some (az_i (((k : Nat) : Int))), some (az_i (v))]) (st2 := [az_i (v), az_i (((k : Nat) : Int)), az_r 32]) (s2 := s) rfl ?_
      refine az_st_i 20 rfl rfl (by constructor <;> omega) ⟨by decide, rfl⟩ ?_
      refine az_ret0 rfl rfl ?_
      exact ⟨rfl, rfl⟩
set_option maxRecDepth 100000 in
set_option maxHeartbeats 800000 in
theorem zs_X8_of_0 {d : Nat} {s : az_S} (hd : 1 ≤ d) {S : zR} {h : Nat} (hR : zRel (s 3) S) (hI : zInv S h) (hh : h ≤ 10000) : az_R d am_m_X8_of 0 (az_ini (am_mL am_m_X8_of) [az_r 1, az_i (0)]) [] (s) (az_ret (some (az_i (S 3))) (s)) := by
  have hz := zI_h hI hh
  refine az_to 0 (pc2 := 0) (lv2 := [some (az_r 1), some (az_i (0))]) (st2 := []) (s2 := s) rfl ?_
  refine az_to 3 (pc2 := 5) (lv2 := [some (az_r 1), some (az_i (0))]) (st2 := [az_i (0), az_r 2]) (s2 := s) rfl ?_
  refine az_clv (v := some (az_i (s 3 0))) (t := s) (m2 := am_m_X5_at) (as := [az_r 2, az_i (0)]) (rest := []) 8 rfl rfl ⟨rfl, rfl⟩ (by omega) (zs_X5_at_2 (s := s) (k := 0) (by omega) (by omega)) ?_
  refine az_to 0 (pc2 := 8) (lv2 := [some (az_r 1), some (az_i (0))]) (st2 := [az_i (s 3 0)]) (s2 := s) rfl ?_
  refine az_retI rfl rfl ?_
  exact ⟨by rw [hR.1.1], rfl⟩
set_option maxRecDepth 100000 in
set_option maxHeartbeats 800000 in
theorem zs_X8_of_1 {d : Nat} {s : az_S} (hd : 1 ≤ d) {S : zR} {h : Nat} (hR : zRel (s 3) S) (hI : zInv S h) (hh : h ≤ 10000) : az_R d am_m_X8_of 0 (az_ini (am_mL am_m_X8_of) [az_r 1, az_i (1)]) [] (s) (az_ret (some (az_i (S 5))) (s)) := by
  have hz := zI_h hI hh
  refine az_to 0 (pc2 := 0) (lv2 := [some (az_r 1), some (az_i (1))]) (st2 := []) (s2 := s) rfl ?_
  refine az_to 3 (pc2 := 5) (lv2 := [some (az_r 1), some (az_i (1))]) (st2 := [az_i (1), az_r 2]) (s2 := s) rfl ?_
  refine az_clv (v := some (az_i (s 3 1))) (t := s) (m2 := am_m_X5_at) (as := [az_r 2, az_i (1)]) (rest := []) 8 rfl rfl ⟨rfl, rfl⟩ (by omega) (zs_X5_at_2 (s := s) (k := 1) (by omega) (by omega)) ?_
  refine az_to 0 (pc2 := 8) (lv2 := [some (az_r 1), some (az_i (1))]) (st2 := [az_i (s 3 1)]) (s2 := s) rfl ?_
  refine az_retI rfl rfl ?_
  exact ⟨by rw [hR.1.2.1], rfl⟩
set_option maxRecDepth 100000 in
set_option maxHeartbeats 800000 in
theorem zs_X8_of_2 {d : Nat} {s : az_S} (hd : 1 ≤ d) {S : zR} {h : Nat} (hR : zRel (s 3) S) (hI : zInv S h) (hh : h ≤ 10000) : az_R d am_m_X8_of 0 (az_ini (am_mL am_m_X8_of) [az_r 1, az_i (2)]) [] (s) (az_ret (some (az_i (((zn S 0 : Nat) : Int)))) (s)) := by
  have hz := zI_h hI hh
  refine az_to 0 (pc2 := 0) (lv2 := [some (az_r 1), some (az_i (2))]) (st2 := []) (s2 := s) rfl ?_
  refine az_to 3 (pc2 := 5) (lv2 := [some (az_r 1), some (az_i (2))]) (st2 := [az_i (2), az_r 2]) (s2 := s) rfl ?_
  refine az_clv (v := some (az_i (s 3 2))) (t := s) (m2 := am_m_X5_at) (as := [az_r 2, az_i (2)]) (rest := []) 8 rfl rfl ⟨rfl, rfl⟩ (by omega) (zs_X5_at_2 (s := s) (k := 2) (by omega) (by omega)) ?_
  refine az_to 0 (pc2 := 8) (lv2 := [some (az_r 1), some (az_i (2))]) (st2 := [az_i (s 3 2)]) (s2 := s) rfl ?_
  refine az_retI rfl rfl ?_
  exact ⟨by rw [hR.1.2.2.1, hz.2.1.1], rfl⟩
set_option maxRecDepth 100000 in
set_option maxHeartbeats 800000 in
theorem zs_X8_of_3 {d : Nat} {s : az_S} (hd : 1 ≤ d) {S : zR} {h : Nat} (hR : zRel (s 3) S) (hI : zInv S h) (hh : h ≤ 10000) : az_R d am_m_X8_of 0 (az_ini (am_mL am_m_X8_of) [az_r 1, az_i (3)]) [] (s) (az_ret (some (az_i (((zn S 1 : Nat) : Int)))) (s)) := by
  have hz := zI_h hI hh
  refine az_to 0 (pc2 := 0) (lv2 := [some (az_r 1), some (az_i (3))]) (st2 := []) (s2 := s) rfl ?_
  refine az_to 3 (pc2 := 5) (lv2 := [some (az_r 1), some (az_i (3))]) (st2 := [az_i (3), az_r 2]) (s2 := s) rfl ?_
  refine az_clv (v := some (az_i (s 3 3))) (t := s) (m2 := am_m_X5_at) (as := [az_r 2, az_i (3)]) (rest := []) 8 rfl rfl ⟨rfl, rfl⟩ (by omega) (zs_X5_at_2 (s := s) (k := 3) (by omega) (by omega)) ?_
  refine az_to 0 (pc2 := 8) (lv2 := [some (az_r 1), some (az_i (3))]) (st2 := [az_i (s 3 3)]) (s2 := s) rfl ?_
  refine az_retI rfl rfl ?_
  exact ⟨by rw [hR.1.2.2.2.1, hz.2.1.2.1], rfl⟩
set_option maxRecDepth 100000 in
set_option maxHeartbeats 800000 in
theorem zs_X8_of_4 {d : Nat} {s : az_S} (hd : 1 ≤ d) {S : zR} {h : Nat} (hR : zRel (s 3) S) (hI : zInv S h) (hh : h ≤ 10000) : az_R d am_m_X8_of 0 (az_ini (am_mL am_m_X8_of) [az_r 1, az_i (4)]) [] (s) (az_ret (some (az_i (((zn S 2 : Nat) : Int)))) (s)) := by
  have hz := zI_h hI hh
  refine az_to 0 (pc2 := 0) (lv2 := [some (az_r 1), some (az_i (4))]) (st2 := []) (s2 := s) rfl ?_
  refine az_to 3 (pc2 := 5) (lv2 := [some (az_r 1), some (az_i (4))]) (st2 := [az_i (4), az_r 2]) (s2 := s) rfl ?_
  refine az_clv (v := some (az_i (s 3 4))) (t := s) (m2 := am_m_X5_at) (as := [az_r 2, az_i (4)]) (rest := []) 8 rfl rfl ⟨rfl, rfl⟩ (by omega) (zs_X5_at_2 (s := s) (k := 4) (by omega) (by omega)) ?_
  refine az_to 0 (pc2 := 8) (lv2 := [some (az_r 1), some (az_i (4))]) (st2 := [az_i (s 3 4)]) (s2 := s) rfl ?_
  refine az_retI rfl rfl ?_
  exact ⟨by rw [hR.1.2.2.2.2, hz.2.1.2.2], rfl⟩
set_option maxRecDepth 100000 in
set_option maxHeartbeats 800000 in
theorem zs_X8_of_raw {d : Nat} {s : az_S} (hd : 1 ≤ d) {k : Nat} (hk : k < 184) : az_R d am_m_X8_of 0 (az_ini (am_mL am_m_X8_of) [az_r 1, az_i (((k : Nat) : Int))]) [] (s) (az_ret (some (az_i (s 3 k))) (s)) := by
  refine az_to 0 (pc2 := 0) (lv2 := [some (az_r 1), some (az_i (((k : Nat) : Int)))]) (st2 := []) (s2 := s) rfl ?_
  refine az_to 3 (pc2 := 5) (lv2 := [some (az_r 1), some (az_i (((k : Nat) : Int)))]) (st2 := [az_i (((k : Nat) : Int)), az_r 2]) (s2 := s) rfl ?_
  refine az_clv (v := some (az_i (s 3 k))) (t := s) (m2 := am_m_X5_at) (as := [az_r 2, az_i (((k : Nat) : Int))]) (rest := []) 8 rfl rfl ⟨rfl, rfl⟩ (by omega) (zs_X5_at_2 (s := s) (k := k) (by omega) (by omega)) ?_
  refine az_to 0 (pc2 := 8) (lv2 := [some (az_r 1), some (az_i (((k : Nat) : Int)))]) (st2 := [az_i (s 3 k)]) (s2 := s) rfl ?_
  refine az_retI rfl rfl ?_
  exact ⟨rfl, rfl⟩
set_option maxRecDepth 100000 in
set_option maxHeartbeats 800000 in
theorem zs_X8_set {d : Nat} {s : az_S} (hd : 1 ≤ d) {k : Nat} {v : Int} (hk : k < 184) : az_R d am_m_X8_set 0 (az_ini (am_mL am_m_X8_set) [az_r 1, az_i (((k : Nat) : Int)), az_i (v)]) [] (s) (az_ret (none) (am_up s 3 k v)) := by
  refine az_to 0 (pc2 := 0) (lv2 := [some (az_r 1), some (az_i (((k : Nat) : Int))), some (az_i (v))]) (st2 := []) (s2 := s) rfl ?_
  refine az_to 4 (pc2 := 6) (lv2 := [some (az_r 1), some (az_i (((k : Nat) : Int))), some (az_i (v))]) (st2 := [az_i (v), az_i (((k : Nat) : Int)), az_r 2]) (s2 := s) rfl ?_
  refine az_clv (v := none) (t := am_up s 3 k v) (m2 := am_m_X5_put) (as := [az_r 2, az_i (((k : Nat) : Int)), az_i (v)]) (rest := []) 9 rfl rfl ⟨rfl, rfl⟩ (by omega) (zs_X5_put_2 (s := s) (k := k) (v := v) (by omega) (by omega)) ?_
  refine az_to 0 (pc2 := 9) (lv2 := [some (az_r 1), some (az_i (((k : Nat) : Int))), some (az_i (v))]) (st2 := []) (s2 := am_up s 3 k v) rfl ?_
  refine az_ret0 rfl rfl ?_
  exact ⟨rfl, rfl⟩
set_option maxRecDepth 100000 in
set_option maxHeartbeats 800000 in
theorem zs_X8_ofBridge_p {d : Nat} {s : az_S} (hd : 1 ≤ d) {S : zR} (hR : zRel (s 3) S) {b g : Nat} (hb : b < zn S 0) (hb2 : b < 10) (hg : g < 5) : az_R d am_m_X8_ofBridge 0 (az_ini (am_mL am_m_X8_ofBridge) [az_r 1, az_i (((b : Nat) : Int)), az_i (((8 + g : Nat) : Int))]) [] (s) (az_ret (some (az_i (zB S b (7 + g)))) (s)) := by
  refine az_to 0 (pc2 := 0) (lv2 := [some (az_r 1), some (az_i (((b : Nat) : Int))), some (az_i (((8 + g : Nat) : Int)))]) (st2 := []) (s2 := s) rfl ?_
  refine az_to 9 (pc2 := 12) (lv2 := [some (az_r 1), some (az_i (((b : Nat) : Int))), some (az_i (((8 + g : Nat) : Int)))]) (st2 := [az_i (((5 + (((b : Nat) : Int) * 13)) + ((8 + g : Nat) : Int))), az_r 2]) (s2 := s) rfl ?_
  refine az_clv (v := some (az_i (s 3 ((5 + (b * 13)) + (8 + g))))) (t := s) (m2 := am_m_X5_at) (as := [az_r 2, az_i (((5 + (((b : Nat) : Int) * 13)) + ((8 + g : Nat) : Int)))]) (rest := []) 15 rfl rfl ⟨rfl, rfl⟩ (by omega) (zs_X5_at_2 (s := s) (k := ((5 + (b * 13)) + (8 + g))) (by omega) (by omega)) ?_
  refine az_to 0 (pc2 := 15) (lv2 := [some (az_r 1), some (az_i (((b : Nat) : Int))), some (az_i (((8 + g : Nat) : Int)))]) (st2 := [az_i (s 3 ((5 + (b * 13)) + (8 + g)))]) (s2 := s) rfl ?_
  refine az_retI rfl rfl ?_
  exact ⟨by rw [show (5 + (b * 13)) + (8 + g) = 5 + 13 * b + (8 + g) from by omega, zR_b hR hb (by omega), zcb_p], rfl⟩
set_option maxRecDepth 100000 in
set_option maxHeartbeats 800000 in
theorem zs_X8_ofBridge {d : Nat} {s : az_S} (hd : 1 ≤ d) {S : zR} (hR : zRel (s 3) S) {b k : Nat} (hb : b < zn S 0) (hb2 : b < 10) (hk : k < 13) : az_R d am_m_X8_ofBridge 0 (az_ini (am_mL am_m_X8_ofBridge) [az_r 1, az_i (((b : Nat) : Int)), az_i (((k : Nat) : Int))]) [] (s) (az_ret (some (az_i (zcb S b k))) (s)) := by
  refine az_to 0 (pc2 := 0) (lv2 := [some (az_r 1), some (az_i (((b : Nat) : Int))), some (az_i (((k : Nat) : Int)))]) (st2 := []) (s2 := s) rfl ?_
  refine az_to 9 (pc2 := 12) (lv2 := [some (az_r 1), some (az_i (((b : Nat) : Int))), some (az_i (((k : Nat) : Int)))]) (st2 := [az_i (((5 + (((b : Nat) : Int) * 13)) + ((k : Nat) : Int))), az_r 2]) (s2 := s) rfl ?_
  refine az_clv (v := some (az_i (s 3 ((5 + (b * 13)) + k)))) (t := s) (m2 := am_m_X5_at) (as := [az_r 2, az_i (((5 + (((b : Nat) : Int) * 13)) + ((k : Nat) : Int)))]) (rest := []) 15 rfl rfl ⟨rfl, rfl⟩ (by omega) (zs_X5_at_2 (s := s) (k := ((5 + (b * 13)) + k)) (by omega) (by omega)) ?_
  refine az_to 0 (pc2 := 15) (lv2 := [some (az_r 1), some (az_i (((b : Nat) : Int))), some (az_i (((k : Nat) : Int)))]) (st2 := [az_i (s 3 ((5 + (b * 13)) + k))]) (s2 := s) rfl ?_
  refine az_retI rfl rfl ?_
  exact ⟨by rw [show (5 + (b * 13)) + k = 5 + 13 * b + k from by omega, zR_b hR hb hk], rfl⟩
set_option maxRecDepth 100000 in
set_option maxHeartbeats 800000 in
theorem zs_X8_setBridge {d : Nat} {s : az_S} (hd : 1 ≤ d) {b k : Nat} {v : Int} (hb : b < 10) (hk : k < 13) : az_R d am_m_X8_setBridge 0 (az_ini (am_mL am_m_X8_setBridge) [az_r 1, az_i (((b : Nat) : Int)), az_i (((k : Nat) : Int)), az_i (v)]) [] (s) (az_ret (none) (am_up s 3 (5 + 13 * b + k) v)) := by
  refine az_to 0 (pc2 := 0) (lv2 := [some (az_r 1), some (az_i (((b : Nat) : Int))), some (az_i (((k : Nat) : Int))), some (az_i (v))]) (st2 := []) (s2 := s) rfl ?_
  refine az_to 10 (pc2 := 13) (lv2 := [some (az_r 1), some (az_i (((b : Nat) : Int))), some (az_i (((k : Nat) : Int))), some (az_i (v))]) (st2 := [az_i (v), az_i (((5 + (((b : Nat) : Int) * 13)) + ((k : Nat) : Int))), az_r 2]) (s2 := s) rfl ?_
  refine az_clv (v := none) (t := am_up s 3 ((5 + (b * 13)) + k) v) (m2 := am_m_X5_put) (as := [az_r 2, az_i (((5 + (((b : Nat) : Int) * 13)) + ((k : Nat) : Int))), az_i (v)]) (rest := []) 16 rfl rfl ⟨rfl, rfl⟩ (by omega) (zs_X5_put_2 (s := s) (k := ((5 + (b * 13)) + k)) (v := v) (by omega) (by omega)) ?_
  refine az_to 0 (pc2 := 16) (lv2 := [some (az_r 1), some (az_i (((b : Nat) : Int))), some (az_i (((k : Nat) : Int))), some (az_i (v))]) (st2 := []) (s2 := am_up s 3 ((5 + (b * 13)) + k) v) rfl ?_
  refine az_ret0 rfl rfl ?_
  rw [Nat.mul_comm b 13]; exact ⟨rfl, rfl⟩
set_option maxRecDepth 100000 in
set_option maxHeartbeats 800000 in
theorem zs_X8_ofTroll {d : Nat} {s : az_S} (hd : 1 ≤ d) {S : zR} (hR : zRel (s 3) S) {t k : Nat} (ht : t < 6) (hk : k < 4) : az_R d am_m_X8_ofTroll 0 (az_ini (am_mL am_m_X8_ofTroll) [az_r 1, az_i (((t : Nat) : Int)), az_i (((k : Nat) : Int))]) [] (s) (az_ret (some (az_i (zT S t k))) (s)) := by
  refine az_to 0 (pc2 := 0) (lv2 := [some (az_r 1), some (az_i (((t : Nat) : Int))), some (az_i (((k : Nat) : Int)))]) (st2 := []) (s2 := s) rfl ?_
  refine az_to 9 (pc2 := 13) (lv2 := [some (az_r 1), some (az_i (((t : Nat) : Int))), some (az_i (((k : Nat) : Int)))]) (st2 := [az_i (((135 + (((t : Nat) : Int) * 4)) + ((k : Nat) : Int))), az_r 2]) (s2 := s) rfl ?_
  refine az_clv (v := some (az_i (s 3 ((135 + (t * 4)) + k)))) (t := s) (m2 := am_m_X5_at) (as := [az_r 2, az_i (((135 + (((t : Nat) : Int) * 4)) + ((k : Nat) : Int)))]) (rest := []) 16 rfl rfl ⟨rfl, rfl⟩ (by omega) (zs_X5_at_2 (s := s) (k := ((135 + (t * 4)) + k)) (by omega) (by omega)) ?_
  refine az_to 0 (pc2 := 16) (lv2 := [some (az_r 1), some (az_i (((t : Nat) : Int))), some (az_i (((k : Nat) : Int)))]) (st2 := [az_i (s 3 ((135 + (t * 4)) + k))]) (s2 := s) rfl ?_
  refine az_retI rfl rfl ?_
  exact ⟨by rw [show (135 + (t * 4)) + k = 135 + 4 * t + k from by omega, hR.2.2.2.1 t k ht hk], rfl⟩
set_option maxRecDepth 100000 in
set_option maxHeartbeats 800000 in
theorem zs_X8_setTroll {d : Nat} {s : az_S} (hd : 1 ≤ d) {t k : Nat} {v : Int} (ht : t < 6) (hk : k < 4) : az_R d am_m_X8_setTroll 0 (az_ini (am_mL am_m_X8_setTroll) [az_r 1, az_i (((t : Nat) : Int)), az_i (((k : Nat) : Int)), az_i (v)]) [] (s) (az_ret (none) (am_up s 3 (135 + 4 * t + k) v)) := by
  refine az_to 0 (pc2 := 0) (lv2 := [some (az_r 1), some (az_i (((t : Nat) : Int))), some (az_i (((k : Nat) : Int))), some (az_i (v))]) (st2 := []) (s2 := s) rfl ?_
  refine az_to 10 (pc2 := 14) (lv2 := [some (az_r 1), some (az_i (((t : Nat) : Int))), some (az_i (((k : Nat) : Int))), some (az_i (v))]) (st2 := [az_i (v), az_i (((135 + (((t : Nat) : Int) * 4)) + ((k : Nat) : Int))), az_r 2]) (s2 := s) rfl ?_
  refine az_clv (v := none) (t := am_up s 3 ((135 + (t * 4)) + k) v) (m2 := am_m_X5_put) (as := [az_r 2, az_i (((135 + (((t : Nat) : Int) * 4)) + ((k : Nat) : Int))), az_i (v)]) (rest := []) 17 rfl rfl ⟨rfl, rfl⟩ (by omega) (zs_X5_put_2 (s := s) (k := ((135 + (t * 4)) + k)) (v := v) (by omega) (by omega)) ?_
  refine az_to 0 (pc2 := 17) (lv2 := [some (az_r 1), some (az_i (((t : Nat) : Int))), some (az_i (((k : Nat) : Int))), some (az_i (v))]) (st2 := []) (s2 := am_up s 3 ((135 + (t * 4)) + k) v) rfl ?_
  refine az_ret0 rfl rfl ?_
  rw [Nat.mul_comm t 4]; exact ⟨rfl, rfl⟩
set_option maxRecDepth 100000 in
set_option maxHeartbeats 800000 in
theorem zs_X8_ofGoat {d : Nat} {s : az_S} (hd : 1 ≤ d) {S : zR} (hR : zRel (s 3) S) {g k : Nat} (hg : g < 5) (hk : k < 5) : az_R d am_m_X8_ofGoat 0 (az_ini (am_mL am_m_X8_ofGoat) [az_r 1, az_i (((g : Nat) : Int)), az_i (((k : Nat) : Int))]) [] (s) (az_ret (some (az_i (zG S g k))) (s)) := by
  refine az_to 0 (pc2 := 0) (lv2 := [some (az_r 1), some (az_i (((g : Nat) : Int))), some (az_i (((k : Nat) : Int)))]) (st2 := []) (s2 := s) rfl ?_
  refine az_to 9 (pc2 := 13) (lv2 := [some (az_r 1), some (az_i (((g : Nat) : Int))), some (az_i (((k : Nat) : Int)))]) (st2 := [az_i (((159 + (((g : Nat) : Int) * 5)) + ((k : Nat) : Int))), az_r 2]) (s2 := s) rfl ?_
  refine az_clv (v := some (az_i (s 3 ((159 + (g * 5)) + k)))) (t := s) (m2 := am_m_X5_at) (as := [az_r 2, az_i (((159 + (((g : Nat) : Int) * 5)) + ((k : Nat) : Int)))]) (rest := []) 16 rfl rfl ⟨rfl, rfl⟩ (by omega) (zs_X5_at_2 (s := s) (k := ((159 + (g * 5)) + k)) (by omega) (by omega)) ?_
  refine az_to 0 (pc2 := 16) (lv2 := [some (az_r 1), some (az_i (((g : Nat) : Int))), some (az_i (((k : Nat) : Int)))]) (st2 := [az_i (s 3 ((159 + (g * 5)) + k))]) (s2 := s) rfl ?_
  refine az_retI rfl rfl ?_
  exact ⟨by rw [show (159 + (g * 5)) + k = 159 + 5 * g + k from by omega, hR.2.2.2.2 g k hg hk], rfl⟩
set_option maxRecDepth 100000 in
set_option maxHeartbeats 800000 in
theorem zs_X8_setGoat {d : Nat} {s : az_S} (hd : 1 ≤ d) {g k : Nat} {v : Int} (hg : g < 5) (hk : k < 5) : az_R d am_m_X8_setGoat 0 (az_ini (am_mL am_m_X8_setGoat) [az_r 1, az_i (((g : Nat) : Int)), az_i (((k : Nat) : Int)), az_i (v)]) [] (s) (az_ret (none) (am_up s 3 (159 + 5 * g + k) v)) := by
  refine az_to 0 (pc2 := 0) (lv2 := [some (az_r 1), some (az_i (((g : Nat) : Int))), some (az_i (((k : Nat) : Int))), some (az_i (v))]) (st2 := []) (s2 := s) rfl ?_
  refine az_to 10 (pc2 := 14) (lv2 := [some (az_r 1), some (az_i (((g : Nat) : Int))), some (az_i (((k : Nat) : Int))), some (az_i (v))]) (st2 := [az_i (v), az_i (((159 + (((g : Nat) : Int) * 5)) + ((k : Nat) : Int))), az_r 2]) (s2 := s) rfl ?_
  refine az_clv (v := none) (t := am_up s 3 ((159 + (g * 5)) + k) v) (m2 := am_m_X5_put) (as := [az_r 2, az_i (((159 + (((g : Nat) : Int) * 5)) + ((k : Nat) : Int))), az_i (v)]) (rest := []) 17 rfl rfl ⟨rfl, rfl⟩ (by omega) (zs_X5_put_2 (s := s) (k := ((159 + (g * 5)) + k)) (v := v) (by omega) (by omega)) ?_
  refine az_to 0 (pc2 := 17) (lv2 := [some (az_r 1), some (az_i (((g : Nat) : Int))), some (az_i (((k : Nat) : Int))), some (az_i (v))]) (st2 := []) (s2 := am_up s 3 ((159 + (g * 5)) + k) v) rfl ?_
  refine az_ret0 rfl rfl ?_
  rw [Nat.mul_comm g 5]; exact ⟨rfl, rfl⟩
set_option maxRecDepth 100000 in
set_option maxHeartbeats 800000 in
theorem zs_X8_isBridge {d : Nat} {s : az_S} (hd : 2 ≤ d) {S : zR} {h : Nat} (hR : zRel (s 3) S) (hI : zInv S h) (hh : h ≤ 10000) {z : Int} (hz0 : az_in z) : az_R d am_m_X8_isBridge 0 (az_ini (am_mL am_m_X8_isBridge) [az_r 1, az_i (z)]) [] (s) (az_ret (some (az_i (az_b (0 ≤ z ∧ z < ((zn S 0 : Nat) : Int))))) (s)) := by
  have hz := zI_h hI hh
  refine az_to 0 (pc2 := 0) (lv2 := [some (az_r 1), some (az_i (z))]) (st2 := []) (s2 := s) rfl ?_
  refine az_to 1 (pc2 := 1) (lv2 := [some (az_r 1), some (az_i (z))]) (st2 := [az_i (z)]) (s2 := s) rfl ?_
  refine az_ifc 17 4 rfl (by decide) (by first | assumption | exact ⟨by omega, by omega⟩) (fun h1 => ?_) (fun h1 => ?_)
  · have h1 : z < 0 := h1
    refine az_to 1 (pc2 := 18) (lv2 := [some (az_r 1), some (az_i (z))]) (st2 := [az_i (0)]) (s2 := s) rfl ?_
    refine az_retB rfl rfl (by first | decide | omega | exact Or.inl rfl | exact Or.inr rfl) ?_
    exact ⟨by rw [az_b0 (by omega)], rfl⟩
  · have h1 : ¬ (z < 0) := h1
    refine az_to 3 (pc2 := 7) (lv2 := [some (az_r 1), some (az_i (z))]) (st2 := [az_i (2), az_r 1, az_i (z)]) (s2 := s) rfl ?_
    refine az_clv (v := some (az_i (((zn S 0 : Nat) : Int)))) (t := s) (m2 := am_m_X8_of) (as := [az_r 1, az_i (2)]) (rest := [az_i (z)]) 10 rfl rfl ⟨rfl, rfl⟩ (by omega) (zs_X8_of_2 (s := s)  (by omega) hR hI hh) ?_
    refine az_to 0 (pc2 := 10) (lv2 := [some (az_r 1), some (az_i (z))]) (st2 := [az_i (((zn S 0 : Nat) : Int)), az_i (z)]) (s2 := s) rfl ?_
    refine az_if2 17 13 rfl (by decide) (by first | assumption | exact ⟨by omega, by omega⟩) (by first | assumption | exact ⟨by omega, by omega⟩) (fun h2 => ?_) (fun h2 => ?_)
    · have h2 : ((zn S 0 : Nat) : Int) ≤ z := h2
      refine az_to 1 (pc2 := 18) (lv2 := [some (az_r 1), some (az_i (z))]) (st2 := [az_i (0)]) (s2 := s) rfl ?_
      refine az_retB rfl rfl (by first | decide | omega | exact Or.inl rfl | exact Or.inr rfl) ?_
      exact ⟨by rw [az_b0 (by omega)], rfl⟩
    · have h2 : ¬ (((zn S 0 : Nat) : Int) ≤ z) := h2
      refine az_to 2 (pc2 := 18) (lv2 := [some (az_r 1), some (az_i (z))]) (st2 := [az_i (1)]) (s2 := s) rfl ?_
      refine az_retB rfl rfl (by first | decide | omega | exact Or.inl rfl | exact Or.inr rfl) ?_
      exact ⟨by rw [az_b1 (by omega)], rfl⟩
set_option maxRecDepth 100000 in
set_option maxHeartbeats 800000 in
theorem zs_X8_isTroll {d : Nat} {s : az_S} (hd : 2 ≤ d) {S : zR} {h : Nat} (hR : zRel (s 3) S) (hI : zInv S h) (hh : h ≤ 10000) {z : Int} (hz0 : az_in z) : az_R d am_m_X8_isTroll 0 (az_ini (am_mL am_m_X8_isTroll) [az_r 1, az_i (z)]) [] (s) (az_ret (some (az_i (az_b (0 ≤ z ∧ z < ((zn S 1 : Nat) : Int))))) (s)) := by
  have hz := zI_h hI hh
  refine az_to 0 (pc2 := 0) (lv2 := [some (az_r 1), some (az_i (z))]) (st2 := []) (s2 := s) rfl ?_
  refine az_to 1 (pc2 := 1) (lv2 := [some (az_r 1), some (az_i (z))]) (st2 := [az_i (z)]) (s2 := s) rfl ?_
  refine az_ifc 17 4 rfl (by decide) (by first | assumption | exact ⟨by omega, by omega⟩) (fun h1 => ?_) (fun h1 => ?_)
  · have h1 : z < 0 := h1
    refine az_to 1 (pc2 := 18) (lv2 := [some (az_r 1), some (az_i (z))]) (st2 := [az_i (0)]) (s2 := s) rfl ?_
    refine az_retB rfl rfl (by first | decide | omega | exact Or.inl rfl | exact Or.inr rfl) ?_
    exact ⟨by rw [az_b0 (by omega)], rfl⟩
  · have h1 : ¬ (z < 0) := h1
    refine az_to 3 (pc2 := 7) (lv2 := [some (az_r 1), some (az_i (z))]) (st2 := [az_i (3), az_r 1, az_i (z)]) (s2 := s) rfl ?_
    refine az_clv (v := some (az_i (((zn S 1 : Nat) : Int)))) (t := s) (m2 := am_m_X8_of) (as := [az_r 1, az_i (3)]) (rest := [az_i (z)]) 10 rfl rfl ⟨rfl, rfl⟩ (by omega) (zs_X8_of_3 (s := s)  (by omega) hR hI hh) ?_
    refine az_to 0 (pc2 := 10) (lv2 := [some (az_r 1), some (az_i (z))]) (st2 := [az_i (((zn S 1 : Nat) : Int)), az_i (z)]) (s2 := s) rfl ?_
    refine az_if2 17 13 rfl (by decide) (by first | assumption | exact ⟨by omega, by omega⟩) (by first | assumption | exact ⟨by omega, by omega⟩) (fun h2 => ?_) (fun h2 => ?_)
    · have h2 : ((zn S 1 : Nat) : Int) ≤ z := h2
      refine az_to 1 (pc2 := 18) (lv2 := [some (az_r 1), some (az_i (z))]) (st2 := [az_i (0)]) (s2 := s) rfl ?_
      refine az_retB rfl rfl (by first | decide | omega | exact Or.inl rfl | exact Or.inr rfl) ?_
      exact ⟨by rw [az_b0 (by omega)], rfl⟩
    · have h2 : ¬ (((zn S 1 : Nat) : Int) ≤ z) := h2
      refine az_to 2 (pc2 := 18) (lv2 := [some (az_r 1), some (az_i (z))]) (st2 := [az_i (1)]) (s2 := s) rfl ?_
      refine az_retB rfl rfl (by first | decide | omega | exact Or.inl rfl | exact Or.inr rfl) ?_
      exact ⟨by rw [az_b1 (by omega)], rfl⟩
set_option maxRecDepth 100000 in
set_option maxHeartbeats 800000 in
theorem zs_X8_isGoat {d : Nat} {s : az_S} (hd : 2 ≤ d) {S : zR} {h : Nat} (hR : zRel (s 3) S) (hI : zInv S h) (hh : h ≤ 10000) {z : Int} (hz0 : az_in z) : az_R d am_m_X8_isGoat 0 (az_ini (am_mL am_m_X8_isGoat) [az_r 1, az_i (z)]) [] (s) (az_ret (some (az_i (az_b (0 ≤ z ∧ z < ((zn S 2 : Nat) : Int))))) (s)) := by
  have hz := zI_h hI hh
  refine az_to 0 (pc2 := 0) (lv2 := [some (az_r 1), some (az_i (z))]) (st2 := []) (s2 := s) rfl ?_
  refine az_to 1 (pc2 := 1) (lv2 := [some (az_r 1), some (az_i (z))]) (st2 := [az_i (z)]) (s2 := s) rfl ?_
  refine az_ifc 17 4 rfl (by decide) (by first | assumption | exact ⟨by omega, by omega⟩) (fun h1 => ?_) (fun h1 => ?_)
  · have h1 : z < 0 := h1
    refine az_to 1 (pc2 := 18) (lv2 := [some (az_r 1), some (az_i (z))]) (st2 := [az_i (0)]) (s2 := s) rfl ?_
    refine az_retB rfl rfl (by first | decide | omega | exact Or.inl rfl | exact Or.inr rfl) ?_
    exact ⟨by rw [az_b0 (by omega)], rfl⟩
  · have h1 : ¬ (z < 0) := h1
    refine az_to 3 (pc2 := 7) (lv2 := [some (az_r 1), some (az_i (z))]) (st2 := [az_i (4), az_r 1, az_i (z)]) (s2 := s) rfl ?_
    refine az_clv (v := some (az_i (((zn S 2 : Nat) : Int)))) (t := s) (m2 := am_m_X8_of) (as := [az_r 1, az_i (4)]) (rest := [az_i (z)]) 10 rfl rfl ⟨rfl, rfl⟩ (by omega) (zs_X8_of_4 (s := s)  (by omega) hR hI hh) ?_
    refine az_to 0 (pc2 := 10) (lv2 := [some (az_r 1), some (az_i (z))]) (st2 := [az_i (((zn S 2 : Nat) : Int)), az_i (z)]) (s2 := s) rfl ?_
    refine az_if2 17 13 rfl (by decide) (by first | assumption | exact ⟨by omega, by omega⟩) (by first | assumption | exact ⟨by omega, by omega⟩) (fun h2 => ?_) (fun h2 => ?_)
    · have h2 : ((zn S 2 : Nat) : Int) ≤ z := h2
      refine az_to 1 (pc2 := 18) (lv2 := [some (az_r 1), some (az_i (z))]) (st2 := [az_i (0)]) (s2 := s) rfl ?_
      refine az_retB rfl rfl (by first | decide | omega | exact Or.inl rfl | exact Or.inr rfl) ?_
      exact ⟨by rw [az_b0 (by omega)], rfl⟩
    · have h2 : ¬ (((zn S 2 : Nat) : Int) ≤ z) := h2
      refine az_to 2 (pc2 := 18) (lv2 := [some (az_r 1), some (az_i (z))]) (st2 := [az_i (1)]) (s2 := s) rfl ?_
      refine az_retB rfl rfl (by first | decide | omega | exact Or.inl rfl | exact Or.inr rfl) ?_
      exact ⟨by rw [az_b1 (by omega)], rfl⟩
set_option maxRecDepth 100000 in
set_option maxHeartbeats 800000 in
theorem zs_X8_isCounted {d : Nat} {s : az_S} (hd : 2 ≤ d) {S : zR} {h : Nat} (hR : zRel (s 3) S) (hI : zInv S h) (hh : h ≤ 10000) {b : Nat} (hb : b < zn S 0) : az_R d am_m_X8_isCounted 0 (az_ini (am_mL am_m_X8_isCounted) [az_r 1, az_i (((b : Nat) : Int))]) [] (s) (az_ret (some (az_i (az_b (0 ≤ zat S b)))) (s)) := by
  have hz := zI_h hI hh
  have hzb := zI_b hI hh hb
  refine az_to 0 (pc2 := 0) (lv2 := [some (az_r 1), some (az_i (((b : Nat) : Int)))]) (st2 := []) (s2 := s) rfl ?_
  refine az_to 3 (pc2 := 3) (lv2 := [some (az_r 1), some (az_i (((b : Nat) : Int)))]) (st2 := [az_i (4), az_i (((b : Nat) : Int)), az_r 1]) (s2 := s) rfl ?_
  refine az_clv (v := some (az_i (zat S b))) (t := s) (m2 := am_m_X8_ofBridge) (as := [az_r 1, az_i (((b : Nat) : Int)), az_i (4)]) (rest := []) 6 rfl rfl ⟨rfl, rfl⟩ (by omega) (zs_X8_ofBridge (s := s) (b := b) (k := 4) (by omega) hR (by omega) (by omega) (by omega)) ?_
  refine az_to 0 (pc2 := 6) (lv2 := [some (az_r 1), some (az_i (((b : Nat) : Int)))]) (st2 := [az_i (zat S b)]) (s2 := s) rfl ?_
  refine az_to 1 (pc2 := 7) (lv2 := [some (az_r 1), some (az_i (((b : Nat) : Int)))]) (st2 := [az_i (-1), az_i (zat S b)]) (s2 := s) rfl ?_
  refine az_if2 14 10 rfl (by decide) (by first | assumption | exact ⟨by omega, by omega⟩) ⟨by decide, by decide⟩ (fun h1 => ?_) (fun h1 => ?_)
  · have h1 : zat S b = -1 := h1
    refine az_to 1 (pc2 := 15) (lv2 := [some (az_r 1), some (az_i (((b : Nat) : Int)))]) (st2 := [az_i (0)]) (s2 := s) rfl ?_
    refine az_retB rfl rfl (by first | decide | omega | exact Or.inl rfl | exact Or.inr rfl) ?_
    exact ⟨by rw [az_b0 (by omega)], rfl⟩
  · have h1 : ¬ (zat S b = -1) := h1
    refine az_to 2 (pc2 := 15) (lv2 := [some (az_r 1), some (az_i (((b : Nat) : Int)))]) (st2 := [az_i (1)]) (s2 := s) rfl ?_
    refine az_retB rfl rfl (by first | decide | omega | exact Or.inl rfl | exact Or.inr rfl) ?_
    exact ⟨by rw [az_b1 (by omega)], rfl⟩
set_option maxRecDepth 100000 in
set_option maxHeartbeats 800000 in
theorem zs_X8_isDisputed {d : Nat} {s : az_S} (hd : 2 ≤ d) {S : zR} {h : Nat} (hR : zRel (s 3) S) (hI : zInv S h) (hh : h ≤ 10000) {b : Nat} (hb : b < zn S 0) : az_R d am_m_X8_isDisputed 0 (az_ini (am_mL am_m_X8_isDisputed) [az_r 1, az_i (((b : Nat) : Int))]) [] (s) (az_ret (some (az_i (az_b (0 ≤ zB S b 5)))) (s)) := by
  have hz := zI_h hI hh
  have hzb := zI_b hI hh hb
  refine az_to 0 (pc2 := 0) (lv2 := [some (az_r 1), some (az_i (((b : Nat) : Int)))]) (st2 := []) (s2 := s) rfl ?_
  refine az_to 3 (pc2 := 4) (lv2 := [some (az_r 1), some (az_i (((b : Nat) : Int)))]) (st2 := [az_i (6), az_i (((b : Nat) : Int)), az_r 1]) (s2 := s) rfl ?_
  refine az_clv (v := some (az_i (zB S b 5))) (t := s) (m2 := am_m_X8_ofBridge) (as := [az_r 1, az_i (((b : Nat) : Int)), az_i (6)]) (rest := []) 7 rfl rfl ⟨rfl, rfl⟩ (by omega) (zs_X8_ofBridge (s := s) (b := b) (k := 6) (by omega) hR (by omega) (by omega) (by omega)) ?_
  refine az_to 0 (pc2 := 7) (lv2 := [some (az_r 1), some (az_i (((b : Nat) : Int)))]) (st2 := [az_i (zB S b 5)]) (s2 := s) rfl ?_
  refine az_to 1 (pc2 := 8) (lv2 := [some (az_r 1), some (az_i (((b : Nat) : Int)))]) (st2 := [az_i (-1), az_i (zB S b 5)]) (s2 := s) rfl ?_
  refine az_if2 15 11 rfl (by decide) (by first | assumption | exact ⟨by omega, by omega⟩) ⟨by decide, by decide⟩ (fun h1 => ?_) (fun h1 => ?_)
  · have h1 : zB S b 5 = -1 := h1
    refine az_to 1 (pc2 := 16) (lv2 := [some (az_r 1), some (az_i (((b : Nat) : Int)))]) (st2 := [az_i (0)]) (s2 := s) rfl ?_
    refine az_retB rfl rfl (by first | decide | omega | exact Or.inl rfl | exact Or.inr rfl) ?_
    exact ⟨by rw [az_b0 (by omega)], rfl⟩
  · have h1 : ¬ (zB S b 5 = -1) := h1
    refine az_to 2 (pc2 := 16) (lv2 := [some (az_r 1), some (az_i (((b : Nat) : Int)))]) (st2 := [az_i (1)]) (s2 := s) rfl ?_
    refine az_retB rfl rfl (by first | decide | omega | exact Or.inl rfl | exact Or.inr rfl) ?_
    exact ⟨by rw [az_b1 (by omega)], rfl⟩
set_option maxRecDepth 100000 in
set_option maxHeartbeats 800000 in
theorem zs_X8_isInFog {d : Nat} {s : az_S} (hd : 2 ≤ d) {S : zR} {h : Nat} (hR : zRel (s 3) S) (hI : zInv S h) (hh : h ≤ 10000) {b : Nat} (hb : b < zn S 0) : az_R d am_m_X8_isInFog 0 (az_ini (am_mL am_m_X8_isInFog) [az_r 1, az_i (((b : Nat) : Int))]) [] (s) (az_ret (some (az_i (az_b (S 3 < zB S b 4)))) (s)) := by
  have hz := zI_h hI hh
  have hzb := zI_b hI hh hb
  refine az_to 0 (pc2 := 0) (lv2 := [some (az_r 1), some (az_i (((b : Nat) : Int)))]) (st2 := []) (s2 := s) rfl ?_
  refine az_to 2 (pc2 := 2) (lv2 := [some (az_r 1), some (az_i (((b : Nat) : Int)))]) (st2 := [az_i (0), az_r 1]) (s2 := s) rfl ?_
  refine az_clv (v := some (az_i (S 3))) (t := s) (m2 := am_m_X8_of) (as := [az_r 1, az_i (0)]) (rest := []) 5 rfl rfl ⟨rfl, rfl⟩ (by omega) (zs_X8_of_0 (s := s)  (by omega) hR hI hh) ?_
  refine az_to 0 (pc2 := 5) (lv2 := [some (az_r 1), some (az_i (((b : Nat) : Int)))]) (st2 := [az_i (S 3)]) (s2 := s) rfl ?_
  refine az_to 3 (pc2 := 8) (lv2 := [some (az_r 1), some (az_i (((b : Nat) : Int)))]) (st2 := [az_i (5), az_i (((b : Nat) : Int)), az_r 1, az_i (S 3)]) (s2 := s) rfl ?_
  refine az_clv (v := some (az_i (zB S b 4))) (t := s) (m2 := am_m_X8_ofBridge) (as := [az_r 1, az_i (((b : Nat) : Int)), az_i (5)]) (rest := [az_i (S 3)]) 11 rfl rfl ⟨rfl, rfl⟩ (by omega) (zs_X8_ofBridge (s := s) (b := b) (k := 5) (by omega) hR (by omega) (by omega) (by omega)) ?_
  refine az_to 0 (pc2 := 11) (lv2 := [some (az_r 1), some (az_i (((b : Nat) : Int)))]) (st2 := [az_i (zB S b 4), az_i (S 3)]) (s2 := s) rfl ?_
  refine az_if2 18 14 rfl (by decide) (by first | assumption | exact ⟨by omega, by omega⟩) (by first | assumption | exact ⟨by omega, by omega⟩) (fun h1 => ?_) (fun h1 => ?_)
  · have h1 : zB S b 4 ≤ S 3 := h1
    refine az_to 1 (pc2 := 19) (lv2 := [some (az_r 1), some (az_i (((b : Nat) : Int)))]) (st2 := [az_i (0)]) (s2 := s) rfl ?_
    refine az_retB rfl rfl (by first | decide | omega | exact Or.inl rfl | exact Or.inr rfl) ?_
    exact ⟨by rw [az_b0 (by omega)], rfl⟩
  · have h1 : ¬ (zB S b 4 ≤ S 3) := h1
    refine az_to 2 (pc2 := 19) (lv2 := [some (az_r 1), some (az_i (((b : Nat) : Int)))]) (st2 := [az_i (1)]) (s2 := s) rfl ?_
    refine az_retB rfl rfl (by first | decide | omega | exact Or.inl rfl | exact Or.inr rfl) ?_
    exact ⟨by rw [az_b1 (by omega)], rfl⟩
set_option maxRecDepth 100000 in
set_option maxHeartbeats 800000 in
theorem zs_X8_riddleHours {d : Nat} {s : az_S} (hd : 1 ≤ d) {S : zR} {h : Nat} (hR : zRel (s 3) S) (hI : zInv S h) (hh : h ≤ 10000) {t : Nat} (ht : t < 6) : az_R d am_m_X8_riddleHours 0 (az_ini (am_mL am_m_X8_riddleHours) [az_r 1, az_i (((t : Nat) : Int))]) [] (s) (az_ret (some (az_i (zrh S t))) (s)) := by
  have hz := zI_h hI hh
  have hzt := zI_t hI hh ht
  have e1 : s 3 ((135 + (t * 4)) + 3) = zT S t 3 := by
    rw [← hR.2.2.2.1 t 3 ht (by omega)]; congr 1; omega
  have e2 : s 3 0 = S 3 := hR.1.1
  refine az_to 0 (pc2 := 0) (lv2 := [some (az_r 1), some (az_i (((t : Nat) : Int)))]) (st2 := []) (s2 := s) rfl ?_
  refine az_to 10 (pc2 := 14) (lv2 := [some (az_r 1), some (az_i (((t : Nat) : Int)))]) (st2 := [az_i (((135 + (((t : Nat) : Int) * 4)) + 3)), az_r 2, az_i (0)]) (s2 := s) rfl ?_
  refine az_clv (v := some (az_i (s 3 ((135 + (t * 4)) + 3)))) (t := s) (m2 := am_m_X5_at) (as := [az_r 2, az_i (((135 + (((t : Nat) : Int) * 4)) + 3))]) (rest := [az_i (0)]) 17 rfl rfl ⟨rfl, rfl⟩ (by omega) (zs_X5_at_2 (s := s) (k := ((135 + (t * 4)) + 3)) (by omega) (by omega)) ?_
  refine az_to 0 (pc2 := 17) (lv2 := [some (az_r 1), some (az_i (((t : Nat) : Int)))]) (st2 := [az_i (s 3 ((135 + (t * 4)) + 3)), az_i (0)]) (s2 := s) rfl ?_
  refine az_to 3 (pc2 := 22) (lv2 := [some (az_r 1), some (az_i (((t : Nat) : Int)))]) (st2 := [az_i (0), az_r 2, az_i (s 3 ((135 + (t * 4)) + 3)), az_i (0)]) (s2 := s) rfl ?_
  refine az_clv (v := some (az_i (s 3 0))) (t := s) (m2 := am_m_X5_at) (as := [az_r 2, az_i (0)]) (rest := [az_i (s 3 ((135 + (t * 4)) + 3)), az_i (0)]) 25 rfl rfl ⟨rfl, rfl⟩ (by omega) (zs_X5_at_2 (s := s) (k := 0) (by omega) (by omega)) ?_
  refine az_to 0 (pc2 := 25) (lv2 := [some (az_r 1), some (az_i (((t : Nat) : Int)))]) (st2 := [az_i (s 3 0), az_i (s 3 ((135 + (t * 4)) + 3)), az_i (0)]) (s2 := s) rfl ?_
  refine az_to 1 (pc2 := 26) (lv2 := [some (az_r 1), some (az_i (((t : Nat) : Int)))]) (st2 := [az_i ((s 3 ((135 + (t * 4)) + 3) - s 3 0)), az_i (0)]) (s2 := s) rfl ?_
  refine az_max 29 rfl rfl (by decide) ⟨by decide, by decide⟩ (by first | assumption | exact ⟨by omega, by omega⟩) ?_
  refine az_retI rfl rfl ?_
  exact ⟨by rw [e1, e2]; rfl, rfl⟩
set_option maxRecDepth 100000 in
set_option maxHeartbeats 800000 in
theorem zs_X8_difficultyNow {d : Nat} {s : az_S} (hd : 2 ≤ d) {S : zR} {h : Nat} (hR : zRel (s 3) S) (hI : zInv S h) (hh : h ≤ 10000) {t : Nat} (ht : t < 6) : az_R d am_m_X8_difficultyNow 0 (az_ini (am_mL am_m_X8_difficultyNow) [az_r 1, az_i (((t : Nat) : Int))]) [] (s) (az_ret (some (az_i (zdn S t))) (s)) := by
  have hz := zI_h hI hh
  have hzt := zI_t hI hh ht
  have hzr := zrh_r hI hh ht
  refine az_to 0 (pc2 := 0) (lv2 := [some (az_r 1), some (az_i (((t : Nat) : Int)))]) (st2 := []) (s2 := s) rfl ?_
  refine az_to 2 (pc2 := 2) (lv2 := [some (az_r 1), some (az_i (((t : Nat) : Int)))]) (st2 := [az_i (((t : Nat) : Int)), az_r 1]) (s2 := s) rfl ?_
  refine az_clv (v := some (az_i (zrh S t))) (t := s) (m2 := am_m_X8_riddleHours) (as := [az_r 1, az_i (((t : Nat) : Int))]) (rest := []) 5 rfl rfl ⟨rfl, rfl⟩ (by omega) (zs_X8_riddleHours (s := s) (t := t) (by omega) hR hI hh (by omega)) ?_
  refine az_to 0 (pc2 := 5) (lv2 := [some (az_r 1), some (az_i (((t : Nat) : Int)))]) (st2 := [az_i (zrh S t)]) (s2 := s) rfl ?_
  refine az_ifc 17 8 rfl (by decide) (by first | assumption | exact ⟨by omega, by omega⟩) (fun h1 => ?_) (fun h1 => ?_)
  · have h1 : zrh S t ≤ 0 := h1
    refine az_to 1 (pc2 := 18) (lv2 := [some (az_r 1), some (az_i (((t : Nat) : Int)))]) (st2 := [az_i (0)]) (s2 := s) rfl ?_
    refine az_retI rfl rfl ?_
    exact ⟨by unfold zrh at *; unfold zdn; split <;> first | rfl | (exfalso; split at * <;> omega), rfl⟩
  · have h1 : ¬ (zrh S t ≤ 0) := h1
    refine az_to 3 (pc2 := 11) (lv2 := [some (az_r 1), some (az_i (((t : Nat) : Int)))]) (st2 := [az_i (2), az_i (((t : Nat) : Int)), az_r 1]) (s2 := s) rfl ?_
    refine az_clv (v := some (az_i (zT S t 2))) (t := s) (m2 := am_m_X8_ofTroll) (as := [az_r 1, az_i (((t : Nat) : Int)), az_i (2)]) (rest := []) 14 rfl rfl ⟨rfl, rfl⟩ (by omega) (zs_X8_ofTroll (s := s) (t := t) (k := 2) (by omega) hR (by omega) (by omega)) ?_
    refine az_to 0 (pc2 := 14) (lv2 := [some (az_r 1), some (az_i (((t : Nat) : Int)))]) (st2 := [az_i (zT S t 2)]) (s2 := s) rfl ?_
    refine az_to 1 (pc2 := 18) (lv2 := [some (az_r 1), some (az_i (((t : Nat) : Int)))]) (st2 := [az_i (zT S t 2)]) (s2 := s) rfl ?_
    refine az_retI rfl rfl ?_
    exact ⟨by unfold zrh at *; unfold zdn; split <;> first | rfl | (exfalso; split at * <;> omega), rfl⟩
set_option maxRecDepth 100000 in
set_option maxHeartbeats 800000 in
theorem zs_X8_difficultyNow_i {d : Nat} {s : az_S} (hd : 2 ≤ d) {S : zR} {h : Nat} (hR : zRel (s 3) S) (hI : zInv S h) (hh : h ≤ 10000) {z : Int} (hz0 : 0 ≤ z ∧ z < 6) : az_R d am_m_X8_difficultyNow 0 (az_ini (am_mL am_m_X8_difficultyNow) [az_r 1, az_i (z)]) [] (s) (az_ret (some (az_i (zdn S z.toNat))) (s)) := by
  obtain ⟨t, rfl⟩ : ∃ t : Nat, z = t := ⟨z.toNat, by omega⟩
  exact zs_X8_difficultyNow hd hR hI hh (by omega)
set_option maxRecDepth 100000 in
set_option maxHeartbeats 800000 in
theorem zs_X8_coinsInChest_L4 {d : Nat} {s : az_S} (hd : 2 ≤ d) {S : zR} {h : Nat} (hR : zRel (s 3) S) (hI : zInv S h) (hh : h ≤ 10000) {b : Nat} (hb : b < zn S 0) : ∀ (m : Nat) (k : Nat), m = zn S 2 - k → (k ≤ zn S 2) → az_R d am_m_X8_coinsInChest 4 [some (az_r 1), some (az_i (((b : Nat) : Int))), some (az_i (zs k (fun g => zB S b (7 + g)))), some (az_i (((k : Nat) : Int)))] [] (s) (az_ret (some (az_i (zch S b))) (s)) := by
  intro m
  induction m using Nat.strongRecOn with
  | _ m ih =>
    intro k hm g0
    have hz := zI_h hI hh
    refine az_to 3 (pc2 := 7) (lv2 := [some (az_r 1), some (az_i (((b : Nat) : Int))), some (az_i (zs k (fun g => zB S b (7 + g)))), some (az_i (((k : Nat) : Int)))]) (st2 := [az_i (4), az_r 1, az_i (((k : Nat) : Int))]) (s2 := s) rfl ?_
    refine az_clv (v := some (az_i (((zn S 2 : Nat) : Int)))) (t := s) (m2 := am_m_X8_of) (as := [az_r 1, az_i (4)]) (rest := [az_i (((k : Nat) : Int))]) 10 rfl rfl ⟨rfl, rfl⟩ (by omega) (zs_X8_of_4 (s := s)  (by omega) hR hI hh) ?_
    refine az_to 0 (pc2 := 10) (lv2 := [some (az_r 1), some (az_i (((b : Nat) : Int))), some (az_i (zs k (fun g => zB S b (7 + g)))), some (az_i (((k : Nat) : Int)))]) (st2 := [az_i (((zn S 2 : Nat) : Int)), az_i (((k : Nat) : Int))]) (s2 := s) rfl ?_
    refine az_if2 31 13 rfl (by decide) (by first | assumption | exact ⟨by omega, by omega⟩) (by first | assumption | exact ⟨by omega, by omega⟩) (fun h1 => ?_) (fun h1 => ?_)
    · have h1 : ((zn S 2 : Nat) : Int) ≤ ((k : Nat) : Int) := h1
      refine az_to 1 (pc2 := 32) (lv2 := [some (az_r 1), some (az_i (((b : Nat) : Int))), some (az_i (zs k (fun g => zB S b (7 + g)))), some (az_i (((k : Nat) : Int)))]) (st2 := [az_i (zs k (fun g => zB S b (7 + g)))]) (s2 := s) rfl ?_
      refine az_retI rfl rfl ?_
      obtain rfl : k = zn S 2 := by omega
      exact ⟨rfl, rfl⟩
    · have h1 : ¬ (((zn S 2 : Nat) : Int) ≤ ((k : Nat) : Int)) := h1
      refine az_to 6 (pc2 := 20) (lv2 := [some (az_r 1), some (az_i (((b : Nat) : Int))), some (az_i (zs k (fun g => zB S b (7 + g)))), some (az_i (((k : Nat) : Int)))]) (st2 := [az_i ((8 + ((k : Nat) : Int))), az_i (((b : Nat) : Int)), az_r 1, az_i (zs k (fun g => zB S b (7 + g)))]) (s2 := s) rfl ?_
      refine az_clv (v := some (az_i (zB S b (7 + k)))) (t := s) (m2 := am_m_X8_ofBridge) (as := [az_r 1, az_i (((b : Nat) : Int)), az_i ((8 + ((k : Nat) : Int)))]) (rest := [az_i (zs k (fun g => zB S b (7 + g)))]) 23 rfl rfl ⟨rfl, rfl⟩ (by omega) (zs_X8_ofBridge_p (s := s) (b := b) (g := k) (by omega) hR (by omega) (by omega) (by omega)) ?_
      refine az_to 0 (pc2 := 23) (lv2 := [some (az_r 1), some (az_i (((b : Nat) : Int))), some (az_i (zs k (fun g => zB S b (7 + g)))), some (az_i (((k : Nat) : Int)))]) (st2 := [az_i (zB S b (7 + k)), az_i (zs k (fun g => zB S b (7 + g)))]) (s2 := s) rfl ?_
      refine az_to 4 (pc2 := 4) (lv2 := [some (az_r 1), some (az_i (((b : Nat) : Int))), some (az_i ((zs k (fun g => zB S b (7 + g)) + zB S b (7 + k)))), some (az_i ((((k : Nat) : Int) + 1)))]) (st2 := []) (s2 := s) rfl ?_
      have e9 : (zs k (fun g => zB S b (7 + g)) + zB S b (7 + k)) = zs (k + 1) (fun g => zB S b (7 + g)) := by
        show _ = zs k _ + _
        rfl
      rw [e9]
      exact ih _ (by omega) (k + 1) rfl (by omega)
set_option maxRecDepth 100000 in
set_option maxHeartbeats 800000 in
theorem zs_X8_coinsInChest {d : Nat} {s : az_S} (hd : 2 ≤ d) {S : zR} {h : Nat} (hR : zRel (s 3) S) (hI : zInv S h) (hh : h ≤ 10000) {b : Nat} (hb : b < zn S 0) : az_R d am_m_X8_coinsInChest 0 (az_ini (am_mL am_m_X8_coinsInChest) [az_r 1, az_i (((b : Nat) : Int))]) [] (s) (az_ret (some (az_i (zch S b))) (s)) := by
  have hz := zI_h hI hh
  refine az_to 0 (pc2 := 0) (lv2 := [some (az_r 1), some (az_i (((b : Nat) : Int))), none, none]) (st2 := []) (s2 := s) rfl ?_
  refine az_to 4 (pc2 := 4) (lv2 := [some (az_r 1), some (az_i (((b : Nat) : Int))), some (az_i (0)), some (az_i (0))]) (st2 := []) (s2 := s) rfl ?_
  exact zs_X8_coinsInChest_L4 (by omega) hR hI hh hb _ 0 rfl (by omega)
set_option maxRecDepth 100000 in
set_option maxHeartbeats 800000 in
theorem zs_X8_coinsInChestsOf_L4 {d : Nat} {s : az_S} (hd : 2 ≤ d) {S : zR} {h : Nat} (hR : zRel (s 3) S) (hI : zInv S h) (hh : h ≤ 10000) {g : Nat} (hg : g < 5) : ∀ (m : Nat) (k : Nat), m = zn S 0 - k → (k ≤ zn S 0) → az_R d am_m_X8_coinsInChestsOf 4 [some (az_r 1), some (az_i (((g : Nat) : Int))), some (az_i (zs k (fun b => zB S b (7 + g)))), some (az_i (((k : Nat) : Int)))] [] (s) (az_ret (some (az_i (zcg S g))) (s)) := by
  intro m
  induction m using Nat.strongRecOn with
  | _ m ih =>
    intro k hm g0
    have hz := zI_h hI hh
    refine az_to 3 (pc2 := 7) (lv2 := [some (az_r 1), some (az_i (((g : Nat) : Int))), some (az_i (zs k (fun b => zB S b (7 + g)))), some (az_i (((k : Nat) : Int)))]) (st2 := [az_i (2), az_r 1, az_i (((k : Nat) : Int))]) (s2 := s) rfl ?_
    refine az_clv (v := some (az_i (((zn S 0 : Nat) : Int)))) (t := s) (m2 := am_m_X8_of) (as := [az_r 1, az_i (2)]) (rest := [az_i (((k : Nat) : Int))]) 10 rfl rfl ⟨rfl, rfl⟩ (by omega) (zs_X8_of_2 (s := s)  (by omega) hR hI hh) ?_
    refine az_to 0 (pc2 := 10) (lv2 := [some (az_r 1), some (az_i (((g : Nat) : Int))), some (az_i (zs k (fun b => zB S b (7 + g)))), some (az_i (((k : Nat) : Int)))]) (st2 := [az_i (((zn S 0 : Nat) : Int)), az_i (((k : Nat) : Int))]) (s2 := s) rfl ?_
    refine az_if2 31 13 rfl (by decide) (by first | assumption | exact ⟨by omega, by omega⟩) (by first | assumption | exact ⟨by omega, by omega⟩) (fun h1 => ?_) (fun h1 => ?_)
    · have h1 : ((zn S 0 : Nat) : Int) ≤ ((k : Nat) : Int) := h1
      refine az_to 1 (pc2 := 32) (lv2 := [some (az_r 1), some (az_i (((g : Nat) : Int))), some (az_i (zs k (fun b => zB S b (7 + g)))), some (az_i (((k : Nat) : Int)))]) (st2 := [az_i (zs k (fun b => zB S b (7 + g)))]) (s2 := s) rfl ?_
      refine az_retI rfl rfl ?_
      obtain rfl : k = zn S 0 := by omega
      exact ⟨rfl, rfl⟩
    · have h1 : ¬ (((zn S 0 : Nat) : Int) ≤ ((k : Nat) : Int)) := h1
      refine az_to 6 (pc2 := 20) (lv2 := [some (az_r 1), some (az_i (((g : Nat) : Int))), some (az_i (zs k (fun b => zB S b (7 + g)))), some (az_i (((k : Nat) : Int)))]) (st2 := [az_i ((8 + ((g : Nat) : Int))), az_i (((k : Nat) : Int)), az_r 1, az_i (zs k (fun b => zB S b (7 + g)))]) (s2 := s) rfl ?_
      refine az_clv (v := some (az_i (zB S k (7 + g)))) (t := s) (m2 := am_m_X8_ofBridge) (as := [az_r 1, az_i (((k : Nat) : Int)), az_i ((8 + ((g : Nat) : Int)))]) (rest := [az_i (zs k (fun b => zB S b (7 + g)))]) 23 rfl rfl ⟨rfl, rfl⟩ (by omega) (zs_X8_ofBridge_p (s := s) (b := k) (g := g) (by omega) hR (by omega) (by omega) (by omega)) ?_
      refine az_to 0 (pc2 := 23) (lv2 := [some (az_r 1), some (az_i (((g : Nat) : Int))), some (az_i (zs k (fun b => zB S b (7 + g)))), some (az_i (((k : Nat) : Int)))]) (st2 := [az_i (zB S k (7 + g)), az_i (zs k (fun b => zB S b (7 + g)))]) (s2 := s) rfl ?_
      refine az_to 4 (pc2 := 4) (lv2 := [some (az_r 1), some (az_i (((g : Nat) : Int))), some (az_i ((zs k (fun b => zB S b (7 + g)) + zB S k (7 + g)))), some (az_i ((((k : Nat) : Int) + 1)))]) (st2 := []) (s2 := s) rfl ?_
      have e9 : (zs k (fun b => zB S b (7 + g)) + zB S k (7 + g)) = zs (k + 1) (fun b => zB S b (7 + g)) := by
        show _ = zs k _ + _
        rfl
      rw [e9]
      exact ih _ (by omega) (k + 1) rfl (by omega)
set_option maxRecDepth 100000 in
set_option maxHeartbeats 800000 in
theorem zs_X8_coinsInChestsOf {d : Nat} {s : az_S} (hd : 2 ≤ d) {S : zR} {h : Nat} (hR : zRel (s 3) S) (hI : zInv S h) (hh : h ≤ 10000) {g : Nat} (hg : g < 5) : az_R d am_m_X8_coinsInChestsOf 0 (az_ini (am_mL am_m_X8_coinsInChestsOf) [az_r 1, az_i (((g : Nat) : Int))]) [] (s) (az_ret (some (az_i (zcg S g))) (s)) := by
  have hz := zI_h hI hh
  refine az_to 0 (pc2 := 0) (lv2 := [some (az_r 1), some (az_i (((g : Nat) : Int))), none, none]) (st2 := []) (s2 := s) rfl ?_
  refine az_to 4 (pc2 := 4) (lv2 := [some (az_r 1), some (az_i (((g : Nat) : Int))), some (az_i (0)), some (az_i (0))]) (st2 := []) (s2 := s) rfl ?_
  exact zs_X8_coinsInChestsOf_L4 (by omega) hR hI hh hg _ 0 rfl (by omega)
set_option maxRecDepth 100000 in
set_option maxHeartbeats 800000 in
theorem zs_X8_coinsInChests_L4 {d : Nat} {s : az_S} (hd : 3 ≤ d) {S : zR} {h : Nat} (hR : zRel (s 3) S) (hI : zInv S h) (hh : h ≤ 10000) : ∀ (m : Nat) (k : Nat), m = zn S 0 - k → (k ≤ zn S 0) → az_R d am_m_X8_coinsInChests 4 [some (az_r 1), some (az_i (zs k (fun b => zch S b))), some (az_i (((k : Nat) : Int)))] [] (s) (az_ret (some (az_i (zchs S))) (s)) := by
  intro m
  induction m using Nat.strongRecOn with
  | _ m ih =>
    intro k hm g0
    have hz := zI_h hI hh
    refine az_to 3 (pc2 := 7) (lv2 := [some (az_r 1), some (az_i (zs k (fun b => zch S b))), some (az_i (((k : Nat) : Int)))]) (st2 := [az_i (2), az_r 1, az_i (((k : Nat) : Int))]) (s2 := s) rfl ?_
    refine az_clv (v := some (az_i (((zn S 0 : Nat) : Int)))) (t := s) (m2 := am_m_X8_of) (as := [az_r 1, az_i (2)]) (rest := [az_i (((k : Nat) : Int))]) 10 rfl rfl ⟨rfl, rfl⟩ (by omega) (zs_X8_of_2 (s := s)  (by omega) hR hI hh) ?_
    refine az_to 0 (pc2 := 10) (lv2 := [some (az_r 1), some (az_i (zs k (fun b => zch S b))), some (az_i (((k : Nat) : Int)))]) (st2 := [az_i (((zn S 0 : Nat) : Int)), az_i (((k : Nat) : Int))]) (s2 := s) rfl ?_
    refine az_if2 27 13 rfl (by decide) (by first | assumption | exact ⟨by omega, by omega⟩) (by first | assumption | exact ⟨by omega, by omega⟩) (fun h1 => ?_) (fun h1 => ?_)
    · have h1 : ((zn S 0 : Nat) : Int) ≤ ((k : Nat) : Int) := h1
      refine az_to 1 (pc2 := 28) (lv2 := [some (az_r 1), some (az_i (zs k (fun b => zch S b))), some (az_i (((k : Nat) : Int)))]) (st2 := [az_i (zs k (fun b => zch S b))]) (s2 := s) rfl ?_
      refine az_retI rfl rfl ?_
      obtain rfl : k = zn S 0 := by omega
      exact ⟨rfl, rfl⟩
    · have h1 : ¬ (((zn S 0 : Nat) : Int) ≤ ((k : Nat) : Int)) := h1
      refine az_to 3 (pc2 := 16) (lv2 := [some (az_r 1), some (az_i (zs k (fun b => zch S b))), some (az_i (((k : Nat) : Int)))]) (st2 := [az_i (((k : Nat) : Int)), az_r 1, az_i (zs k (fun b => zch S b))]) (s2 := s) rfl ?_
      refine az_clv (v := some (az_i (zch S k))) (t := s) (m2 := am_m_X8_coinsInChest) (as := [az_r 1, az_i (((k : Nat) : Int))]) (rest := [az_i (zs k (fun b => zch S b))]) 19 rfl rfl ⟨rfl, rfl⟩ (by omega) (zs_X8_coinsInChest (s := s) (b := k) (by omega) hR hI hh (by omega)) ?_
      refine az_to 0 (pc2 := 19) (lv2 := [some (az_r 1), some (az_i (zs k (fun b => zch S b))), some (az_i (((k : Nat) : Int)))]) (st2 := [az_i (zch S k), az_i (zs k (fun b => zch S b))]) (s2 := s) rfl ?_
      refine az_to 4 (pc2 := 4) (lv2 := [some (az_r 1), some (az_i ((zs k (fun b => zch S b) + zch S k))), some (az_i ((((k : Nat) : Int) + 1)))]) (st2 := []) (s2 := s) rfl ?_
      have e9 : (zs k (fun b => zch S b) + zch S k) = zs (k + 1) (fun b => zch S b) := by
        show _ = zs k _ + _
        rfl
      rw [e9]
      exact ih _ (by omega) (k + 1) rfl (by omega)
set_option maxRecDepth 100000 in
set_option maxHeartbeats 800000 in
theorem zs_X8_coinsInChests {d : Nat} {s : az_S} (hd : 3 ≤ d) {S : zR} {h : Nat} (hR : zRel (s 3) S) (hI : zInv S h) (hh : h ≤ 10000) : az_R d am_m_X8_coinsInChests 0 (az_ini (am_mL am_m_X8_coinsInChests) [az_r 1]) [] (s) (az_ret (some (az_i (zchs S))) (s)) := by
  have hz := zI_h hI hh
  refine az_to 0 (pc2 := 0) (lv2 := [some (az_r 1), none, none]) (st2 := []) (s2 := s) rfl ?_
  refine az_to 4 (pc2 := 4) (lv2 := [some (az_r 1), some (az_i (0)), some (az_i (0))]) (st2 := []) (s2 := s) rfl ?_
  exact zs_X8_coinsInChests_L4 (by omega) hR hI hh _ 0 rfl (by omega)
set_option maxRecDepth 100000 in
set_option maxHeartbeats 800000 in
theorem zs_X8_sumOfTrolls_L4 {d : Nat} {s : az_S} (hd : 2 ≤ d) {S : zR} {h : Nat} (hR : zRel (s 3) S) (hI : zInv S h) (hh : h ≤ 10000) {k0 : Nat} (hk0 : k0 < 4) : ∀ (m : Nat) (k : Nat), m = zn S 1 - k → (k ≤ zn S 1) → az_R d am_m_X8_sumOfTrolls 4 [some (az_r 1), some (az_i (((k0 : Nat) : Int))), some (az_i (zs k (fun t => zT S t k0))), some (az_i (((k : Nat) : Int)))] [] (s) (az_ret (some (az_i (zst S k0))) (s)) := by
  intro m
  induction m using Nat.strongRecOn with
  | _ m ih =>
    intro k hm g0
    have hz := zI_h hI hh
    refine az_to 3 (pc2 := 7) (lv2 := [some (az_r 1), some (az_i (((k0 : Nat) : Int))), some (az_i (zs k (fun t => zT S t k0))), some (az_i (((k : Nat) : Int)))]) (st2 := [az_i (3), az_r 1, az_i (((k : Nat) : Int))]) (s2 := s) rfl ?_
    refine az_clv (v := some (az_i (((zn S 1 : Nat) : Int)))) (t := s) (m2 := am_m_X8_of) (as := [az_r 1, az_i (3)]) (rest := [az_i (((k : Nat) : Int))]) 10 rfl rfl ⟨rfl, rfl⟩ (by omega) (zs_X8_of_3 (s := s)  (by omega) hR hI hh) ?_
    refine az_to 0 (pc2 := 10) (lv2 := [some (az_r 1), some (az_i (((k0 : Nat) : Int))), some (az_i (zs k (fun t => zT S t k0))), some (az_i (((k : Nat) : Int)))]) (st2 := [az_i (((zn S 1 : Nat) : Int)), az_i (((k : Nat) : Int))]) (s2 := s) rfl ?_
    refine az_if2 28 13 rfl (by decide) (by first | assumption | exact ⟨by omega, by omega⟩) (by first | assumption | exact ⟨by omega, by omega⟩) (fun h1 => ?_) (fun h1 => ?_)
    · have h1 : ((zn S 1 : Nat) : Int) ≤ ((k : Nat) : Int) := h1
      refine az_to 1 (pc2 := 29) (lv2 := [some (az_r 1), some (az_i (((k0 : Nat) : Int))), some (az_i (zs k (fun t => zT S t k0))), some (az_i (((k : Nat) : Int)))]) (st2 := [az_i (zs k (fun t => zT S t k0))]) (s2 := s) rfl ?_
      refine az_retI rfl rfl ?_
      obtain rfl : k = zn S 1 := by omega
      exact ⟨rfl, rfl⟩
    · have h1 : ¬ (((zn S 1 : Nat) : Int) ≤ ((k : Nat) : Int)) := h1
      refine az_to 4 (pc2 := 17) (lv2 := [some (az_r 1), some (az_i (((k0 : Nat) : Int))), some (az_i (zs k (fun t => zT S t k0))), some (az_i (((k : Nat) : Int)))]) (st2 := [az_i (((k0 : Nat) : Int)), az_i (((k : Nat) : Int)), az_r 1, az_i (zs k (fun t => zT S t k0))]) (s2 := s) rfl ?_
      refine az_clv (v := some (az_i (zT S k k0))) (t := s) (m2 := am_m_X8_ofTroll) (as := [az_r 1, az_i (((k : Nat) : Int)), az_i (((k0 : Nat) : Int))]) (rest := [az_i (zs k (fun t => zT S t k0))]) 20 rfl rfl ⟨rfl, rfl⟩ (by omega) (zs_X8_ofTroll (s := s) (t := k) (k := k0) (by omega) hR (by omega) (by omega)) ?_
      refine az_to 0 (pc2 := 20) (lv2 := [some (az_r 1), some (az_i (((k0 : Nat) : Int))), some (az_i (zs k (fun t => zT S t k0))), some (az_i (((k : Nat) : Int)))]) (st2 := [az_i (zT S k k0), az_i (zs k (fun t => zT S t k0))]) (s2 := s) rfl ?_
      refine az_to 4 (pc2 := 4) (lv2 := [some (az_r 1), some (az_i (((k0 : Nat) : Int))), some (az_i ((zs k (fun t => zT S t k0) + zT S k k0))), some (az_i ((((k : Nat) : Int) + 1)))]) (st2 := []) (s2 := s) rfl ?_
      have e9 : (zs k (fun t => zT S t k0) + zT S k k0) = zs (k + 1) (fun t => zT S t k0) := by
        show _ = zs k _ + _
        rfl
      rw [e9]
      exact ih _ (by omega) (k + 1) rfl (by omega)
set_option maxRecDepth 100000 in
set_option maxHeartbeats 800000 in
theorem zs_X8_sumOfTrolls {d : Nat} {s : az_S} (hd : 2 ≤ d) {S : zR} {h : Nat} (hR : zRel (s 3) S) (hI : zInv S h) (hh : h ≤ 10000) {k0 : Nat} (hk0 : k0 < 4) : az_R d am_m_X8_sumOfTrolls 0 (az_ini (am_mL am_m_X8_sumOfTrolls) [az_r 1, az_i (((k0 : Nat) : Int))]) [] (s) (az_ret (some (az_i (zst S k0))) (s)) := by
  have hz := zI_h hI hh
  refine az_to 0 (pc2 := 0) (lv2 := [some (az_r 1), some (az_i (((k0 : Nat) : Int))), none, none]) (st2 := []) (s2 := s) rfl ?_
  refine az_to 4 (pc2 := 4) (lv2 := [some (az_r 1), some (az_i (((k0 : Nat) : Int))), some (az_i (0)), some (az_i (0))]) (st2 := []) (s2 := s) rfl ?_
  exact zs_X8_sumOfTrolls_L4 (by omega) hR hI hh hk0 _ 0 rfl (by omega)
set_option maxRecDepth 100000 in
set_option maxHeartbeats 800000 in
theorem zs_X8_sumOfGoats_L4 {d : Nat} {s : az_S} (hd : 1 ≤ d) {S : zR} {h : Nat} (hR : zRel (s 3) S) (hI : zInv S h) (hh : h ≤ 10000) {k0 : Nat} (hk0 : k0 < 5) : ∀ (m : Nat) (k : Nat), m = zn S 2 - k → (k ≤ zn S 2) → az_R d am_m_X8_sumOfGoats 4 [some (az_r 1), some (az_i (((k0 : Nat) : Int))), some (az_i (zs k (fun g => zG S g k0))), some (az_i (((k : Nat) : Int)))] [] (s) (az_ret (some (az_i (zsg S k0))) (s)) := by
  intro m
  induction m using Nat.strongRecOn with
  | _ m ih =>
    intro k hm g0
    have hz := zI_h hI hh
    have e4 : s 3 4 = ((zn S 2 : Nat) : Int) := by rw [hR.1.2.2.2.2, hz.2.1.2.2]
    refine az_to 4 (pc2 := 10) (lv2 := [some (az_r 1), some (az_i (((k0 : Nat) : Int))), some (az_i (zs k (fun g => zG S g k0))), some (az_i (((k : Nat) : Int)))]) (st2 := [az_i (4), az_r 2, az_i (((k : Nat) : Int))]) (s2 := s) rfl ?_
    refine az_clv (v := some (az_i (s 3 4))) (t := s) (m2 := am_m_X5_at) (as := [az_r 2, az_i (4)]) (rest := [az_i (((k : Nat) : Int))]) 13 rfl rfl ⟨rfl, rfl⟩ (by omega) (zs_X5_at_2 (s := s) (k := 4) (by omega) (by omega)) ?_
    refine az_to 0 (pc2 := 13) (lv2 := [some (az_r 1), some (az_i (((k0 : Nat) : Int))), some (az_i (zs k (fun g => zG S g k0))), some (az_i (((k : Nat) : Int)))]) (st2 := [az_i (s 3 4), az_i (((k : Nat) : Int))]) (s2 := s) rfl ?_
    refine az_if2 41 16 rfl (by decide) (by first | assumption | exact ⟨by omega, by omega⟩) (by first | assumption | exact ⟨by omega, by omega⟩) (fun h1 => ?_) (fun h1 => ?_)
    · have h1 : s 3 4 ≤ ((k : Nat) : Int) := h1
      refine az_to 1 (pc2 := 42) (lv2 := [some (az_r 1), some (az_i (((k0 : Nat) : Int))), some (az_i (zs k (fun g => zG S g k0))), some (az_i (((k : Nat) : Int)))]) (st2 := [az_i (zs k (fun g => zG S g k0))]) (s2 := s) rfl ?_
      refine az_retI rfl rfl ?_
      obtain rfl : k = zn S 2 := by omega
      exact ⟨rfl, rfl⟩
    · have h1 : ¬ (s 3 4 ≤ ((k : Nat) : Int)) := h1
      refine az_to 10 (pc2 := 30) (lv2 := [some (az_r 1), some (az_i (((k0 : Nat) : Int))), some (az_i (zs k (fun g => zG S g k0))), some (az_i (((k : Nat) : Int)))]) (st2 := [az_i (((159 + (((k : Nat) : Int) * 5)) + ((k0 : Nat) : Int))), az_r 2, az_i (zs k (fun g => zG S g k0))]) (s2 := s) rfl ?_
      refine az_clv (v := some (az_i (s 3 ((159 + (k * 5)) + k0)))) (t := s) (m2 := am_m_X5_at) (as := [az_r 2, az_i (((159 + (((k : Nat) : Int) * 5)) + ((k0 : Nat) : Int)))]) (rest := [az_i (zs k (fun g => zG S g k0))]) 33 rfl rfl ⟨rfl, rfl⟩ (by omega) (zs_X5_at_2 (s := s) (k := ((159 + (k * 5)) + k0)) (by omega) (by omega)) ?_
      refine az_to 0 (pc2 := 33) (lv2 := [some (az_r 1), some (az_i (((k0 : Nat) : Int))), some (az_i (zs k (fun g => zG S g k0))), some (az_i (((k : Nat) : Int)))]) (st2 := [az_i (s 3 ((159 + (k * 5)) + k0)), az_i (zs k (fun g => zG S g k0))]) (s2 := s) rfl ?_
      refine az_to 4 (pc2 := 4) (lv2 := [some (az_r 1), some (az_i (((k0 : Nat) : Int))), some (az_i ((zs k (fun g => zG S g k0) + s 3 ((159 + (k * 5)) + k0)))), some (az_i ((((k : Nat) : Int) + 1)))]) (st2 := []) (s2 := s) rfl ?_
      have e9 : (zs k (fun g => zG S g k0) + s 3 ((159 + (k * 5)) + k0)) = zs (k + 1) (fun g => zG S g k0) := by
        show _ = zs k _ + _
        dsimp only; rw [show (159 + (k * 5)) + k0 = 159 + 5 * k + k0 from by omega, hR.2.2.2.2 k k0 (by omega) hk0]
      rw [e9]
      exact ih _ (by omega) (k + 1) rfl (by omega)
set_option maxRecDepth 100000 in
set_option maxHeartbeats 800000 in
theorem zs_X8_sumOfGoats {d : Nat} {s : az_S} (hd : 1 ≤ d) {S : zR} {h : Nat} (hR : zRel (s 3) S) (hI : zInv S h) (hh : h ≤ 10000) {k0 : Nat} (hk0 : k0 < 5) : az_R d am_m_X8_sumOfGoats 0 (az_ini (am_mL am_m_X8_sumOfGoats) [az_r 1, az_i (((k0 : Nat) : Int))]) [] (s) (az_ret (some (az_i (zsg S k0))) (s)) := by
  have hz := zI_h hI hh
  have e4 : s 3 4 = ((zn S 2 : Nat) : Int) := by rw [hR.1.2.2.2.2, hz.2.1.2.2]
  refine az_to 0 (pc2 := 0) (lv2 := [some (az_r 1), some (az_i (((k0 : Nat) : Int))), none, none]) (st2 := []) (s2 := s) rfl ?_
  refine az_to 4 (pc2 := 4) (lv2 := [some (az_r 1), some (az_i (((k0 : Nat) : Int))), some (az_i (0)), some (az_i (0))]) (st2 := []) (s2 := s) rfl ?_
  exact zs_X8_sumOfGoats_L4 (by omega) hR hI hh hk0 _ 0 rfl (by omega)
set_option maxRecDepth 100000 in
set_option maxHeartbeats 800000 in
theorem zs_X8_sumOfTolls_L4 {d : Nat} {s : az_S} (hd : 3 ≤ d) {S : zR} {h : Nat} (hR : zRel (s 3) S) (hI : zInv S h) (hh : h ≤ 10000) {p : Prop} [Decidable p] : ∀ (m : Nat) (k : Nat), m = zn S 0 - k → (k ≤ zn S 0) → az_R d am_m_X8_sumOfTolls 4 [some (az_r 1), some (az_i (az_b (p))), some (az_i (zs k (fun b => if p ∨ ¬ S 3 < zB S b 4 then zB S b 3 else 0))), some (az_i (((k : Nat) : Int)))] [] (s) (az_ret (some (az_i (ztl S (p)))) (s)) := by
  intro m
  induction m using Nat.strongRecOn with
  | _ m ih =>
    intro k hm g0
    have hz := zI_h hI hh
    refine az_to 3 (pc2 := 7) (lv2 := [some (az_r 1), some (az_i (az_b (p))), some (az_i (zs k (fun b => if p ∨ ¬ S 3 < zB S b 4 then zB S b 3 else 0))), some (az_i (((k : Nat) : Int)))]) (st2 := [az_i (2), az_r 1, az_i (((k : Nat) : Int))]) (s2 := s) rfl ?_
    refine az_clv (v := some (az_i (((zn S 0 : Nat) : Int)))) (t := s) (m2 := am_m_X8_of) (as := [az_r 1, az_i (2)]) (rest := [az_i (((k : Nat) : Int))]) 10 rfl rfl ⟨rfl, rfl⟩ (by omega) (zs_X8_of_2 (s := s)  (by omega) hR hI hh) ?_
    refine az_to 0 (pc2 := 10) (lv2 := [some (az_r 1), some (az_i (az_b (p))), some (az_i (zs k (fun b => if p ∨ ¬ S 3 < zB S b 4 then zB S b 3 else 0))), some (az_i (((k : Nat) : Int)))]) (st2 := [az_i (((zn S 0 : Nat) : Int)), az_i (((k : Nat) : Int))]) (s2 := s) rfl ?_
    refine az_if2 40 13 rfl (by decide) (by first | assumption | exact ⟨by omega, by omega⟩) (by first | assumption | exact ⟨by omega, by omega⟩) (fun h1 => ?_) (fun h1 => ?_)
    · have h1 : ((zn S 0 : Nat) : Int) ≤ ((k : Nat) : Int) := h1
      refine az_to 1 (pc2 := 41) (lv2 := [some (az_r 1), some (az_i (az_b (p))), some (az_i (zs k (fun b => if p ∨ ¬ S 3 < zB S b 4 then zB S b 3 else 0))), some (az_i (((k : Nat) : Int)))]) (st2 := [az_i (zs k (fun b => if p ∨ ¬ S 3 < zB S b 4 then zB S b 3 else 0))]) (s2 := s) rfl ?_
      refine az_retI rfl rfl ?_
      obtain rfl : k = zn S 0 := by omega
      exact ⟨rfl, rfl⟩
    · have h1 : ¬ (((zn S 0 : Nat) : Int) ≤ ((k : Nat) : Int)) := h1
      refine az_to 1 (pc2 := 14) (lv2 := [some (az_r 1), some (az_i (az_b (p))), some (az_i (zs k (fun b => if p ∨ ¬ S 3 < zB S b 4 then zB S b 3 else 0))), some (az_i (((k : Nat) : Int)))]) (st2 := [az_i (az_b (p))]) (s2 := s) rfl ?_
      refine az_ifbn 25 17 rfl (by decide) (fun h2 => ?_) (fun h2 => ?_)
      · have h2 : p := h2
        refine az_to 4 (pc2 := 29) (lv2 := [some (az_r 1), some (az_i (az_b (p))), some (az_i (zs k (fun b => if p ∨ ¬ S 3 < zB S b 4 then zB S b 3 else 0))), some (az_i (((k : Nat) : Int)))]) (st2 := [az_i (3), az_i (((k : Nat) : Int)), az_r 1, az_i (zs k (fun b => if p ∨ ¬ S 3 < zB S b 4 then zB S b 3 else 0))]) (s2 := s) rfl ?_
        refine az_clv (v := some (az_i (zB S k 3))) (t := s) (m2 := am_m_X8_ofBridge) (as := [az_r 1, az_i (((k : Nat) : Int)), az_i (3)]) (rest := [az_i (zs k (fun b => if p ∨ ¬ S 3 < zB S b 4 then zB S b 3 else 0))]) 32 rfl rfl ⟨rfl, rfl⟩ (by omega) (zs_X8_ofBridge (s := s) (b := k) (k := 3) (by omega) hR (by omega) (by omega) (by omega)) ?_
        refine az_to 0 (pc2 := 32) (lv2 := [some (az_r 1), some (az_i (az_b (p))), some (az_i (zs k (fun b => if p ∨ ¬ S 3 < zB S b 4 then zB S b 3 else 0))), some (az_i (((k : Nat) : Int)))]) (st2 := [az_i (zB S k 3), az_i (zs k (fun b => if p ∨ ¬ S 3 < zB S b 4 then zB S b 3 else 0))]) (s2 := s) rfl ?_
        refine az_to 4 (pc2 := 4) (lv2 := [some (az_r 1), some (az_i (az_b (p))), some (az_i ((zs k (fun b => if p ∨ ¬ S 3 < zB S b 4 then zB S b 3 else 0) + zB S k 3))), some (az_i ((((k : Nat) : Int) + 1)))]) (st2 := []) (s2 := s) rfl ?_
        have e9 : (zs k (fun b => if p ∨ ¬ S 3 < zB S b 4 then zB S b 3 else 0) + zB S k 3) = zs (k + 1) (fun b => if p ∨ ¬ S 3 < zB S b 4 then zB S b 3 else 0) := by
          show _ = zs k _ + _
          dsimp only; rw [if_pos (by first | exact Or.inl (by assumption) | exact Or.inr (by assumption))]
        rw [e9]
        exact ih _ (by omega) (k + 1) rfl (by omega)
      · have h2 : ¬ (p) := h2
        refine az_to 2 (pc2 := 19) (lv2 := [some (az_r 1), some (az_i (az_b (p))), some (az_i (zs k (fun b => if p ∨ ¬ S 3 < zB S b 4 then zB S b 3 else 0))), some (az_i (((k : Nat) : Int)))]) (st2 := [az_i (((k : Nat) : Int)), az_r 1]) (s2 := s) rfl ?_
        refine az_clv (v := some (az_i (az_b (S 3 < zB S k 4)))) (t := s) (m2 := am_m_X8_isInFog) (as := [az_r 1, az_i (((k : Nat) : Int))]) (rest := []) 22 rfl rfl ⟨rfl, rfl⟩ (by omega) (zs_X8_isInFog (s := s) (b := k) (by omega) hR hI hh (by omega)) ?_
        refine az_to 0 (pc2 := 22) (lv2 := [some (az_r 1), some (az_i (az_b (p))), some (az_i (zs k (fun b => if p ∨ ¬ S 3 < zB S b 4 then zB S b 3 else 0))), some (az_i (((k : Nat) : Int)))]) (st2 := [az_i (az_b (S 3 < zB S k 4))]) (s2 := s) rfl ?_
        refine az_ifbn 34 25 rfl (by decide) (fun h3 => ?_) (fun h3 => ?_)
        · have h3 : S 3 < zB S k 4 := h3
          refine az_to 2 (pc2 := 4) (lv2 := [some (az_r 1), some (az_i (az_b (p))), some (az_i (zs k (fun b => if p ∨ ¬ S 3 < zB S b 4 then zB S b 3 else 0))), some (az_i ((((k : Nat) : Int) + 1)))]) (st2 := []) (s2 := s) rfl ?_
          have e9 : zs k (fun b => if p ∨ ¬ S 3 < zB S b 4 then zB S b 3 else 0) = zs (k + 1) (fun b => if p ∨ ¬ S 3 < zB S b 4 then zB S b 3 else 0) := by
            show _ = zs k _ + _
            dsimp only; rw [if_neg (by intro q; rcases q with q | q <;> contradiction), Int.add_zero]
          rw [e9]
          exact ih _ (by omega) (k + 1) rfl (by omega)
        · have h3 : ¬ (S 3 < zB S k 4) := h3
          refine az_to 4 (pc2 := 29) (lv2 := [some (az_r 1), some (az_i (az_b (p))), some (az_i (zs k (fun b => if p ∨ ¬ S 3 < zB S b 4 then zB S b 3 else 0))), some (az_i (((k : Nat) : Int)))]) (st2 := [az_i (3), az_i (((k : Nat) : Int)), az_r 1, az_i (zs k (fun b => if p ∨ ¬ S 3 < zB S b 4 then zB S b 3 else 0))]) (s2 := s) rfl ?_
          refine az_clv (v := some (az_i (zB S k 3))) (t := s) (m2 := am_m_X8_ofBridge) (as := [az_r 1, az_i (((k : Nat) : Int)), az_i (3)]) (rest := [az_i (zs k (fun b => if p ∨ ¬ S 3 < zB S b 4 then zB S b 3 else 0))]) 32 rfl rfl ⟨rfl, rfl⟩ (by omega) (zs_X8_ofBridge (s := s) (b := k) (k := 3) (by omega) hR (by omega) (by omega) (by omega)) ?_
          refine az_to 0 (pc2 := 32) (lv2 := [some (az_r 1), some (az_i (az_b (p))), some (az_i (zs k (fun b => if p ∨ ¬ S 3 < zB S b 4 then zB S b 3 else 0))), some (az_i (((k : Nat) : Int)))]) (st2 := [az_i (zB S k 3), az_i (zs k (fun b => if p ∨ ¬ S 3 < zB S b 4 then zB S b 3 else 0))]) (s2 := s) rfl ?_
          refine az_to 4 (pc2 := 4) (lv2 := [some (az_r 1), some (az_i (az_b (p))), some (az_i ((zs k (fun b => if p ∨ ¬ S 3 < zB S b 4 then zB S b 3 else 0) + zB S k 3))), some (az_i ((((k : Nat) : Int) + 1)))]) (st2 := []) (s2 := s) rfl ?_
          have e9 : (zs k (fun b => if p ∨ ¬ S 3 < zB S b 4 then zB S b 3 else 0) + zB S k 3) = zs (k + 1) (fun b => if p ∨ ¬ S 3 < zB S b 4 then zB S b 3 else 0) := by
            show _ = zs k _ + _
            dsimp only; rw [if_pos (by first | exact Or.inl (by assumption) | exact Or.inr (by assumption))]
          rw [e9]
          exact ih _ (by omega) (k + 1) rfl (by omega)
set_option maxRecDepth 100000 in
set_option maxHeartbeats 800000 in
theorem zs_X8_sumOfTolls {d : Nat} {s : az_S} (hd : 3 ≤ d) {S : zR} {h : Nat} (hR : zRel (s 3) S) (hI : zInv S h) (hh : h ≤ 10000) {p : Prop} [Decidable p] : az_R d am_m_X8_sumOfTolls 0 (az_ini (am_mL am_m_X8_sumOfTolls) [az_r 1, az_i (az_b (p))]) [] (s) (az_ret (some (az_i (ztl S (p)))) (s)) := by
  have hz := zI_h hI hh
  refine az_to 0 (pc2 := 0) (lv2 := [some (az_r 1), some (az_i (az_b (p))), none, none]) (st2 := []) (s2 := s) rfl ?_
  refine az_to 4 (pc2 := 4) (lv2 := [some (az_r 1), some (az_i (az_b (p))), some (az_i (0)), some (az_i (0))]) (st2 := []) (s2 := s) rfl ?_
  exact zs_X8_sumOfTolls_L4 (by omega) hR hI hh _ 0 rfl (by omega)
set_option maxRecDepth 100000 in
set_option maxHeartbeats 800000 in
theorem zs_X8_countTrollsPosted_L4 {d : Nat} {s : az_S} (hd : 2 ≤ d) {S : zR} {h : Nat} (hR : zRel (s 3) S) (hI : zInv S h) (hh : h ≤ 10000) : ∀ (m : Nat) (k : Nat), m = zn S 1 - k → (k ≤ zn S 1) → az_R d am_m_X8_countTrollsPosted 4 [some (az_r 1), some (az_i (zs k (fun t => az_b (¬ zT S t 0 = -1)))), some (az_i (((k : Nat) : Int)))] [] (s) (az_ret (some (az_i (zcp S))) (s)) := by
  intro m
  induction m using Nat.strongRecOn with
  | _ m ih =>
    intro k hm g0
    have hz := zI_h hI hh
    refine az_to 3 (pc2 := 7) (lv2 := [some (az_r 1), some (az_i (zs k (fun t => az_b (¬ zT S t 0 = -1)))), some (az_i (((k : Nat) : Int)))]) (st2 := [az_i (3), az_r 1, az_i (((k : Nat) : Int))]) (s2 := s) rfl ?_
    refine az_clv (v := some (az_i (((zn S 1 : Nat) : Int)))) (t := s) (m2 := am_m_X8_of) (as := [az_r 1, az_i (3)]) (rest := [az_i (((k : Nat) : Int))]) 10 rfl rfl ⟨rfl, rfl⟩ (by omega) (zs_X8_of_3 (s := s)  (by omega) hR hI hh) ?_
    refine az_to 0 (pc2 := 10) (lv2 := [some (az_r 1), some (az_i (zs k (fun t => az_b (¬ zT S t 0 = -1)))), some (az_i (((k : Nat) : Int)))]) (st2 := [az_i (((zn S 1 : Nat) : Int)), az_i (((k : Nat) : Int))]) (s2 := s) rfl ?_
    refine az_if2 32 13 rfl (by decide) (by first | assumption | exact ⟨by omega, by omega⟩) (by first | assumption | exact ⟨by omega, by omega⟩) (fun h1 => ?_) (fun h1 => ?_)
    · have h1 : ((zn S 1 : Nat) : Int) ≤ ((k : Nat) : Int) := h1
      refine az_to 1 (pc2 := 33) (lv2 := [some (az_r 1), some (az_i (zs k (fun t => az_b (¬ zT S t 0 = -1)))), some (az_i (((k : Nat) : Int)))]) (st2 := [az_i (zs k (fun t => az_b (¬ zT S t 0 = -1)))]) (s2 := s) rfl ?_
      refine az_retI rfl rfl ?_
      obtain rfl : k = zn S 1 := by omega
      exact ⟨rfl, rfl⟩
    · have h1 : ¬ (((zn S 1 : Nat) : Int) ≤ ((k : Nat) : Int)) := h1
      have hzt := zI_t hI hh (t := k) (by omega)
      refine az_to 3 (pc2 := 16) (lv2 := [some (az_r 1), some (az_i (zs k (fun t => az_b (¬ zT S t 0 = -1)))), some (az_i (((k : Nat) : Int)))]) (st2 := [az_i (0), az_i (((k : Nat) : Int)), az_r 1]) (s2 := s) rfl ?_
      refine az_clv (v := some (az_i (zT S k 0))) (t := s) (m2 := am_m_X8_ofTroll) (as := [az_r 1, az_i (((k : Nat) : Int)), az_i (0)]) (rest := []) 19 rfl rfl ⟨rfl, rfl⟩ (by omega) (zs_X8_ofTroll (s := s) (t := k) (k := 0) (by omega) hR (by omega) (by omega)) ?_
      refine az_to 0 (pc2 := 19) (lv2 := [some (az_r 1), some (az_i (zs k (fun t => az_b (¬ zT S t 0 = -1)))), some (az_i (((k : Nat) : Int)))]) (st2 := [az_i (zT S k 0)]) (s2 := s) rfl ?_
      refine az_to 1 (pc2 := 20) (lv2 := [some (az_r 1), some (az_i (zs k (fun t => az_b (¬ zT S t 0 = -1)))), some (az_i (((k : Nat) : Int)))]) (st2 := [az_i (-1), az_i (zT S k 0)]) (s2 := s) rfl ?_
      refine az_if2 26 23 rfl (by decide) (by first | assumption | exact ⟨by omega, by omega⟩) ⟨by decide, by decide⟩ (fun h2 => ?_) (fun h2 => ?_)
      · have h2 : zT S k 0 = -1 := h2
        refine az_to 2 (pc2 := 4) (lv2 := [some (az_r 1), some (az_i (zs k (fun t => az_b (¬ zT S t 0 = -1)))), some (az_i ((((k : Nat) : Int) + 1)))]) (st2 := []) (s2 := s) rfl ?_
        have e9 : zs k (fun t => az_b (¬ zT S t 0 = -1)) = zs (k + 1) (fun t => az_b (¬ zT S t 0 = -1)) := by
          show _ = zs k _ + _
          dsimp only; rw [az_b0 (not_not_intro (by assumption)), Int.add_zero]
        rw [e9]
        exact ih _ (by omega) (k + 1) rfl (by omega)
      · have h2 : ¬ (zT S k 0 = -1) := h2
        refine az_to 3 (pc2 := 4) (lv2 := [some (az_r 1), some (az_i ((zs k (fun t => az_b (¬ zT S t 0 = -1)) + 1))), some (az_i ((((k : Nat) : Int) + 1)))]) (st2 := []) (s2 := s) rfl ?_
        have e9 : (zs k (fun t => az_b (¬ zT S t 0 = -1)) + 1) = zs (k + 1) (fun t => az_b (¬ zT S t 0 = -1)) := by
          show _ = zs k _ + _
          dsimp only; rw [az_b1 (by assumption)]
        rw [e9]
        exact ih _ (by omega) (k + 1) rfl (by omega)
set_option maxRecDepth 100000 in
set_option maxHeartbeats 800000 in
theorem zs_X8_countTrollsPosted {d : Nat} {s : az_S} (hd : 2 ≤ d) {S : zR} {h : Nat} (hR : zRel (s 3) S) (hI : zInv S h) (hh : h ≤ 10000) : az_R d am_m_X8_countTrollsPosted 0 (az_ini (am_mL am_m_X8_countTrollsPosted) [az_r 1]) [] (s) (az_ret (some (az_i (zcp S))) (s)) := by
  have hz := zI_h hI hh
  refine az_to 0 (pc2 := 0) (lv2 := [some (az_r 1), none, none]) (st2 := []) (s2 := s) rfl ?_
  refine az_to 4 (pc2 := 4) (lv2 := [some (az_r 1), some (az_i (0)), some (az_i (0))]) (st2 := []) (s2 := s) rfl ?_
  exact zs_X8_countTrollsPosted_L4 (by omega) hR hI hh _ 0 rfl (by omega)
set_option maxRecDepth 100000 in
set_option maxHeartbeats 800000 in
theorem zs_X8_countBridgesCounted_L4 {d : Nat} {s : az_S} (hd : 3 ≤ d) {S : zR} {h : Nat} (hR : zRel (s 3) S) (hI : zInv S h) (hh : h ≤ 10000) : ∀ (m : Nat) (k : Nat), m = zn S 0 - k → (k ≤ zn S 0) → az_R d am_m_X8_countBridgesCounted 4 [some (az_r 1), some (az_i (zs k (fun b => az_b (0 ≤ zat S b)))), some (az_i (((k : Nat) : Int)))] [] (s) (az_ret (some (az_i (zcc S))) (s)) := by
  intro m
  induction m using Nat.strongRecOn with
  | _ m ih =>
    intro k hm g0
    have hz := zI_h hI hh
    refine az_to 3 (pc2 := 7) (lv2 := [some (az_r 1), some (az_i (zs k (fun b => az_b (0 ≤ zat S b)))), some (az_i (((k : Nat) : Int)))]) (st2 := [az_i (2), az_r 1, az_i (((k : Nat) : Int))]) (s2 := s) rfl ?_
    refine az_clv (v := some (az_i (((zn S 0 : Nat) : Int)))) (t := s) (m2 := am_m_X8_of) (as := [az_r 1, az_i (2)]) (rest := [az_i (((k : Nat) : Int))]) 10 rfl rfl ⟨rfl, rfl⟩ (by omega) (zs_X8_of_2 (s := s)  (by omega) hR hI hh) ?_
    refine az_to 0 (pc2 := 10) (lv2 := [some (az_r 1), some (az_i (zs k (fun b => az_b (0 ≤ zat S b)))), some (az_i (((k : Nat) : Int)))]) (st2 := [az_i (((zn S 0 : Nat) : Int)), az_i (((k : Nat) : Int))]) (s2 := s) rfl ?_
    refine az_if2 30 13 rfl (by decide) (by first | assumption | exact ⟨by omega, by omega⟩) (by first | assumption | exact ⟨by omega, by omega⟩) (fun h1 => ?_) (fun h1 => ?_)
    · have h1 : ((zn S 0 : Nat) : Int) ≤ ((k : Nat) : Int) := h1
      refine az_to 1 (pc2 := 31) (lv2 := [some (az_r 1), some (az_i (zs k (fun b => az_b (0 ≤ zat S b)))), some (az_i (((k : Nat) : Int)))]) (st2 := [az_i (zs k (fun b => az_b (0 ≤ zat S b)))]) (s2 := s) rfl ?_
      refine az_retI rfl rfl ?_
      obtain rfl : k = zn S 0 := by omega
      exact ⟨rfl, rfl⟩
    · have h1 : ¬ (((zn S 0 : Nat) : Int) ≤ ((k : Nat) : Int)) := h1
      refine az_to 2 (pc2 := 15) (lv2 := [some (az_r 1), some (az_i (zs k (fun b => az_b (0 ≤ zat S b)))), some (az_i (((k : Nat) : Int)))]) (st2 := [az_i (((k : Nat) : Int)), az_r 1]) (s2 := s) rfl ?_
      refine az_clv (v := some (az_i (az_b (0 ≤ zat S k)))) (t := s) (m2 := am_m_X8_isCounted) (as := [az_r 1, az_i (((k : Nat) : Int))]) (rest := []) 18 rfl rfl ⟨rfl, rfl⟩ (by omega) (zs_X8_isCounted (s := s) (b := k) (by omega) hR hI hh (by omega)) ?_
      refine az_to 0 (pc2 := 18) (lv2 := [some (az_r 1), some (az_i (zs k (fun b => az_b (0 ≤ zat S b)))), some (az_i (((k : Nat) : Int)))]) (st2 := [az_i (az_b (0 ≤ zat S k))]) (s2 := s) rfl ?_
      refine az_ifbe 24 21 rfl (by decide) (fun h2 => ?_) (fun h2 => ?_)
      · have h2 : ¬ (0 ≤ zat S k) := h2
        refine az_to 2 (pc2 := 4) (lv2 := [some (az_r 1), some (az_i (zs k (fun b => az_b (0 ≤ zat S b)))), some (az_i ((((k : Nat) : Int) + 1)))]) (st2 := []) (s2 := s) rfl ?_
        have e9 : zs k (fun b => az_b (0 ≤ zat S b)) = zs (k + 1) (fun b => az_b (0 ≤ zat S b)) := by
          show _ = zs k _ + _
          dsimp only; rw [az_b0 (by assumption), Int.add_zero]
        rw [e9]
        exact ih _ (by omega) (k + 1) rfl (by omega)
      · have h2 : 0 ≤ zat S k := h2
        refine az_to 3 (pc2 := 4) (lv2 := [some (az_r 1), some (az_i ((zs k (fun b => az_b (0 ≤ zat S b)) + 1))), some (az_i ((((k : Nat) : Int) + 1)))]) (st2 := []) (s2 := s) rfl ?_
        have e9 : (zs k (fun b => az_b (0 ≤ zat S b)) + 1) = zs (k + 1) (fun b => az_b (0 ≤ zat S b)) := by
          show _ = zs k _ + _
          dsimp only; rw [az_b1 (by assumption)]
        rw [e9]
        exact ih _ (by omega) (k + 1) rfl (by omega)
set_option maxRecDepth 100000 in
set_option maxHeartbeats 800000 in
theorem zs_X8_countBridgesCounted {d : Nat} {s : az_S} (hd : 3 ≤ d) {S : zR} {h : Nat} (hR : zRel (s 3) S) (hI : zInv S h) (hh : h ≤ 10000) : az_R d am_m_X8_countBridgesCounted 0 (az_ini (am_mL am_m_X8_countBridgesCounted) [az_r 1]) [] (s) (az_ret (some (az_i (zcc S))) (s)) := by
  have hz := zI_h hI hh
  refine az_to 0 (pc2 := 0) (lv2 := [some (az_r 1), none, none]) (st2 := []) (s2 := s) rfl ?_
  refine az_to 4 (pc2 := 4) (lv2 := [some (az_r 1), some (az_i (0)), some (az_i (0))]) (st2 := []) (s2 := s) rfl ?_
  exact zs_X8_countBridgesCounted_L4 (by omega) hR hI hh _ 0 rfl (by omega)
set_option maxRecDepth 100000 in
set_option maxHeartbeats 800000 in
theorem zs_X8_countDisputes_L4 {d : Nat} {s : az_S} (hd : 3 ≤ d) {S : zR} {h : Nat} (hR : zRel (s 3) S) (hI : zInv S h) (hh : h ≤ 10000) : ∀ (m : Nat) (k : Nat), m = zn S 0 - k → (k ≤ zn S 0) → az_R d am_m_X8_countDisputes 4 [some (az_r 1), some (az_i (zs k (fun b => az_b (0 ≤ zB S b 5)))), some (az_i (((k : Nat) : Int)))] [] (s) (az_ret (some (az_i (zcd S))) (s)) := by
  intro m
  induction m using Nat.strongRecOn with
  | _ m ih =>
    intro k hm g0
    have hz := zI_h hI hh
    refine az_to 3 (pc2 := 7) (lv2 := [some (az_r 1), some (az_i (zs k (fun b => az_b (0 ≤ zB S b 5)))), some (az_i (((k : Nat) : Int)))]) (st2 := [az_i (2), az_r 1, az_i (((k : Nat) : Int))]) (s2 := s) rfl ?_
    refine az_clv (v := some (az_i (((zn S 0 : Nat) : Int)))) (t := s) (m2 := am_m_X8_of) (as := [az_r 1, az_i (2)]) (rest := [az_i (((k : Nat) : Int))]) 10 rfl rfl ⟨rfl, rfl⟩ (by omega) (zs_X8_of_2 (s := s)  (by omega) hR hI hh) ?_
    refine az_to 0 (pc2 := 10) (lv2 := [some (az_r 1), some (az_i (zs k (fun b => az_b (0 ≤ zB S b 5)))), some (az_i (((k : Nat) : Int)))]) (st2 := [az_i (((zn S 0 : Nat) : Int)), az_i (((k : Nat) : Int))]) (s2 := s) rfl ?_
    refine az_if2 30 13 rfl (by decide) (by first | assumption | exact ⟨by omega, by omega⟩) (by first | assumption | exact ⟨by omega, by omega⟩) (fun h1 => ?_) (fun h1 => ?_)
    · have h1 : ((zn S 0 : Nat) : Int) ≤ ((k : Nat) : Int) := h1
      refine az_to 1 (pc2 := 31) (lv2 := [some (az_r 1), some (az_i (zs k (fun b => az_b (0 ≤ zB S b 5)))), some (az_i (((k : Nat) : Int)))]) (st2 := [az_i (zs k (fun b => az_b (0 ≤ zB S b 5)))]) (s2 := s) rfl ?_
      refine az_retI rfl rfl ?_
      obtain rfl : k = zn S 0 := by omega
      exact ⟨rfl, rfl⟩
    · have h1 : ¬ (((zn S 0 : Nat) : Int) ≤ ((k : Nat) : Int)) := h1
      refine az_to 2 (pc2 := 15) (lv2 := [some (az_r 1), some (az_i (zs k (fun b => az_b (0 ≤ zB S b 5)))), some (az_i (((k : Nat) : Int)))]) (st2 := [az_i (((k : Nat) : Int)), az_r 1]) (s2 := s) rfl ?_
      refine az_clv (v := some (az_i (az_b (0 ≤ zB S k 5)))) (t := s) (m2 := am_m_X8_isDisputed) (as := [az_r 1, az_i (((k : Nat) : Int))]) (rest := []) 18 rfl rfl ⟨rfl, rfl⟩ (by omega) (zs_X8_isDisputed (s := s) (b := k) (by omega) hR hI hh (by omega)) ?_
      refine az_to 0 (pc2 := 18) (lv2 := [some (az_r 1), some (az_i (zs k (fun b => az_b (0 ≤ zB S b 5)))), some (az_i (((k : Nat) : Int)))]) (st2 := [az_i (az_b (0 ≤ zB S k 5))]) (s2 := s) rfl ?_
      refine az_ifbe 24 21 rfl (by decide) (fun h2 => ?_) (fun h2 => ?_)
      · have h2 : ¬ (0 ≤ zB S k 5) := h2
        refine az_to 2 (pc2 := 4) (lv2 := [some (az_r 1), some (az_i (zs k (fun b => az_b (0 ≤ zB S b 5)))), some (az_i ((((k : Nat) : Int) + 1)))]) (st2 := []) (s2 := s) rfl ?_
        have e9 : zs k (fun b => az_b (0 ≤ zB S b 5)) = zs (k + 1) (fun b => az_b (0 ≤ zB S b 5)) := by
          show _ = zs k _ + _
          dsimp only; rw [az_b0 (by assumption), Int.add_zero]
        rw [e9]
        exact ih _ (by omega) (k + 1) rfl (by omega)
      · have h2 : 0 ≤ zB S k 5 := h2
        refine az_to 3 (pc2 := 4) (lv2 := [some (az_r 1), some (az_i ((zs k (fun b => az_b (0 ≤ zB S b 5)) + 1))), some (az_i ((((k : Nat) : Int) + 1)))]) (st2 := []) (s2 := s) rfl ?_
        have e9 : (zs k (fun b => az_b (0 ≤ zB S b 5)) + 1) = zs (k + 1) (fun b => az_b (0 ≤ zB S b 5)) := by
          show _ = zs k _ + _
          dsimp only; rw [az_b1 (by assumption)]
        rw [e9]
        exact ih _ (by omega) (k + 1) rfl (by omega)
set_option maxRecDepth 100000 in
set_option maxHeartbeats 800000 in
theorem zs_X8_countDisputes {d : Nat} {s : az_S} (hd : 3 ≤ d) {S : zR} {h : Nat} (hR : zRel (s 3) S) (hI : zInv S h) (hh : h ≤ 10000) : az_R d am_m_X8_countDisputes 0 (az_ini (am_mL am_m_X8_countDisputes) [az_r 1]) [] (s) (az_ret (some (az_i (zcd S))) (s)) := by
  have hz := zI_h hI hh
  refine az_to 0 (pc2 := 0) (lv2 := [some (az_r 1), none, none]) (st2 := []) (s2 := s) rfl ?_
  refine az_to 4 (pc2 := 4) (lv2 := [some (az_r 1), some (az_i (0)), some (az_i (0))]) (st2 := []) (s2 := s) rfl ?_
  exact zs_X8_countDisputes_L4 (by omega) hR hI hh _ 0 rfl (by omega)
set_option maxRecDepth 100000 in
set_option maxHeartbeats 800000 in
theorem zs_X8_countFogs_L4 {d : Nat} {s : az_S} (hd : 3 ≤ d) {S : zR} {h : Nat} (hR : zRel (s 3) S) (hI : zInv S h) (hh : h ≤ 10000) : ∀ (m : Nat) (k : Nat), m = zn S 0 - k → (k ≤ zn S 0) → az_R d am_m_X8_countFogs 4 [some (az_r 1), some (az_i (zs k (fun b => az_b (S 3 < zB S b 4)))), some (az_i (((k : Nat) : Int)))] [] (s) (az_ret (some (az_i (zcf S))) (s)) := by
  intro m
  induction m using Nat.strongRecOn with
  | _ m ih =>
    intro k hm g0
    have hz := zI_h hI hh
    refine az_to 3 (pc2 := 7) (lv2 := [some (az_r 1), some (az_i (zs k (fun b => az_b (S 3 < zB S b 4)))), some (az_i (((k : Nat) : Int)))]) (st2 := [az_i (2), az_r 1, az_i (((k : Nat) : Int))]) (s2 := s) rfl ?_
    refine az_clv (v := some (az_i (((zn S 0 : Nat) : Int)))) (t := s) (m2 := am_m_X8_of) (as := [az_r 1, az_i (2)]) (rest := [az_i (((k : Nat) : Int))]) 10 rfl rfl ⟨rfl, rfl⟩ (by omega) (zs_X8_of_2 (s := s)  (by omega) hR hI hh) ?_
    refine az_to 0 (pc2 := 10) (lv2 := [some (az_r 1), some (az_i (zs k (fun b => az_b (S 3 < zB S b 4)))), some (az_i (((k : Nat) : Int)))]) (st2 := [az_i (((zn S 0 : Nat) : Int)), az_i (((k : Nat) : Int))]) (s2 := s) rfl ?_
    refine az_if2 30 13 rfl (by decide) (by first | assumption | exact ⟨by omega, by omega⟩) (by first | assumption | exact ⟨by omega, by omega⟩) (fun h1 => ?_) (fun h1 => ?_)
    · have h1 : ((zn S 0 : Nat) : Int) ≤ ((k : Nat) : Int) := h1
      refine az_to 1 (pc2 := 31) (lv2 := [some (az_r 1), some (az_i (zs k (fun b => az_b (S 3 < zB S b 4)))), some (az_i (((k : Nat) : Int)))]) (st2 := [az_i (zs k (fun b => az_b (S 3 < zB S b 4)))]) (s2 := s) rfl ?_
      refine az_retI rfl rfl ?_
      obtain rfl : k = zn S 0 := by omega
      exact ⟨rfl, rfl⟩
    · have h1 : ¬ (((zn S 0 : Nat) : Int) ≤ ((k : Nat) : Int)) := h1
      refine az_to 2 (pc2 := 15) (lv2 := [some (az_r 1), some (az_i (zs k (fun b => az_b (S 3 < zB S b 4)))), some (az_i (((k : Nat) : Int)))]) (st2 := [az_i (((k : Nat) : Int)), az_r 1]) (s2 := s) rfl ?_
      refine az_clv (v := some (az_i (az_b (S 3 < zB S k 4)))) (t := s) (m2 := am_m_X8_isInFog) (as := [az_r 1, az_i (((k : Nat) : Int))]) (rest := []) 18 rfl rfl ⟨rfl, rfl⟩ (by omega) (zs_X8_isInFog (s := s) (b := k) (by omega) hR hI hh (by omega)) ?_
      refine az_to 0 (pc2 := 18) (lv2 := [some (az_r 1), some (az_i (zs k (fun b => az_b (S 3 < zB S b 4)))), some (az_i (((k : Nat) : Int)))]) (st2 := [az_i (az_b (S 3 < zB S k 4))]) (s2 := s) rfl ?_
      refine az_ifbe 24 21 rfl (by decide) (fun h2 => ?_) (fun h2 => ?_)
      · have h2 : ¬ (S 3 < zB S k 4) := h2
        refine az_to 2 (pc2 := 4) (lv2 := [some (az_r 1), some (az_i (zs k (fun b => az_b (S 3 < zB S b 4)))), some (az_i ((((k : Nat) : Int) + 1)))]) (st2 := []) (s2 := s) rfl ?_
        have e9 : zs k (fun b => az_b (S 3 < zB S b 4)) = zs (k + 1) (fun b => az_b (S 3 < zB S b 4)) := by
          show _ = zs k _ + _
          dsimp only; rw [az_b0 (by assumption), Int.add_zero]
        rw [e9]
        exact ih _ (by omega) (k + 1) rfl (by omega)
      · have h2 : S 3 < zB S k 4 := h2
        refine az_to 3 (pc2 := 4) (lv2 := [some (az_r 1), some (az_i ((zs k (fun b => az_b (S 3 < zB S b 4)) + 1))), some (az_i ((((k : Nat) : Int) + 1)))]) (st2 := []) (s2 := s) rfl ?_
        have e9 : (zs k (fun b => az_b (S 3 < zB S b 4)) + 1) = zs (k + 1) (fun b => az_b (S 3 < zB S b 4)) := by
          show _ = zs k _ + _
          dsimp only; rw [az_b1 (by assumption)]
        rw [e9]
        exact ih _ (by omega) (k + 1) rfl (by omega)
set_option maxRecDepth 100000 in
set_option maxHeartbeats 800000 in
theorem zs_X8_countFogs {d : Nat} {s : az_S} (hd : 3 ≤ d) {S : zR} {h : Nat} (hR : zRel (s 3) S) (hI : zInv S h) (hh : h ≤ 10000) : az_R d am_m_X8_countFogs 0 (az_ini (am_mL am_m_X8_countFogs) [az_r 1]) [] (s) (az_ret (some (az_i (zcf S))) (s)) := by
  have hz := zI_h hI hh
  refine az_to 0 (pc2 := 0) (lv2 := [some (az_r 1), none, none]) (st2 := []) (s2 := s) rfl ?_
  refine az_to 4 (pc2 := 4) (lv2 := [some (az_r 1), some (az_i (0)), some (az_i (0))]) (st2 := []) (s2 := s) rfl ?_
  exact zs_X8_countFogs_L4 (by omega) hR hI hh _ 0 rfl (by omega)
set_option maxRecDepth 100000 in
set_option maxHeartbeats 800000 in
theorem zs_X9_isWithin {d : Nat} {s : az_S} (hd : 0 ≤ d) {z lo hi : Int} (h1 : az_in z) (h2 : az_in lo) (h3 : az_in hi) : az_R d am_m_X9_isWithin 0 (az_ini (am_mL am_m_X9_isWithin) [az_i (z), az_i (lo), az_i (hi)]) [] (s) (az_ret (some (az_i (az_b (lo ≤ z ∧ z ≤ hi)))) (s)) := by
  refine az_to 0 (pc2 := 0) (lv2 := [some (az_i (z)), some (az_i (lo)), some (az_i (hi))]) (st2 := []) (s2 := s) rfl ?_
  refine az_to 2 (pc2 := 2) (lv2 := [some (az_i (z)), some (az_i (lo)), some (az_i (hi))]) (st2 := [az_i (lo), az_i (z)]) (s2 := s) rfl ?_
  refine az_if2 14 5 rfl (by decide) (by first | assumption | exact ⟨by omega, by omega⟩) (by first | assumption | exact ⟨by omega, by omega⟩) (fun h1 => ?_) (fun h1 => ?_)
  · have h1 : z < lo := h1
    refine az_to 1 (pc2 := 15) (lv2 := [some (az_i (z)), some (az_i (lo)), some (az_i (hi))]) (st2 := [az_i (0)]) (s2 := s) rfl ?_
    refine az_retB rfl rfl (by first | decide | omega | exact Or.inl rfl | exact Or.inr rfl) ?_
    exact ⟨by rw [az_b0 (by omega)], rfl⟩
  · have h1 : ¬ (z < lo) := h1
    refine az_to 2 (pc2 := 7) (lv2 := [some (az_i (z)), some (az_i (lo)), some (az_i (hi))]) (st2 := [az_i (hi), az_i (z)]) (s2 := s) rfl ?_
    refine az_if2 14 10 rfl (by decide) (by first | assumption | exact ⟨by omega, by omega⟩) (by first | assumption | exact ⟨by omega, by omega⟩) (fun h2 => ?_) (fun h2 => ?_)
    · have h2 : hi < z := h2
      refine az_to 1 (pc2 := 15) (lv2 := [some (az_i (z)), some (az_i (lo)), some (az_i (hi))]) (st2 := [az_i (0)]) (s2 := s) rfl ?_
      refine az_retB rfl rfl (by first | decide | omega | exact Or.inl rfl | exact Or.inr rfl) ?_
      exact ⟨by rw [az_b0 (by omega)], rfl⟩
    · have h2 : ¬ (hi < z) := h2
      refine az_to 2 (pc2 := 15) (lv2 := [some (az_i (z)), some (az_i (lo)), some (az_i (hi))]) (st2 := [az_i (1)]) (s2 := s) rfl ?_
      refine az_retB rfl rfl (by first | decide | omega | exact Or.inl rfl | exact Or.inr rfl) ?_
      exact ⟨by rw [az_b1 (by omega)], rfl⟩
set_option maxRecDepth 100000 in
set_option maxHeartbeats 800000 in
theorem zs_X8_countRiddles_L4 {d : Nat} {s : az_S} (hd : 2 ≤ d) {S : zR} {h : Nat} (hR : zRel (s 3) S) (hI : zInv S h) (hh : h ≤ 10000) {n : Int} (hn : az_in n) : ∀ (m : Nat) (k : Nat), m = zn S 1 - k → (k ≤ zn S 1) → az_R d am_m_X8_countRiddles 4 [some (az_r 1), some (az_i (n)), some (az_i (zs k (fun t => az_b (1 ≤ zrh S t ∧ zrh S t ≤ n)))), some (az_i (((k : Nat) : Int)))] [] (s) (az_ret (some (az_i (zcr S n))) (s)) := by
  intro m
  induction m using Nat.strongRecOn with
  | _ m ih =>
    intro k hm g0
    have hz := zI_h hI hh
    refine az_to 3 (pc2 := 7) (lv2 := [some (az_r 1), some (az_i (n)), some (az_i (zs k (fun t => az_b (1 ≤ zrh S t ∧ zrh S t ≤ n)))), some (az_i (((k : Nat) : Int)))]) (st2 := [az_i (3), az_r 1, az_i (((k : Nat) : Int))]) (s2 := s) rfl ?_
    refine az_clv (v := some (az_i (((zn S 1 : Nat) : Int)))) (t := s) (m2 := am_m_X8_of) (as := [az_r 1, az_i (3)]) (rest := [az_i (((k : Nat) : Int))]) 10 rfl rfl ⟨rfl, rfl⟩ (by omega) (zs_X8_of_3 (s := s)  (by omega) hR hI hh) ?_
    refine az_to 0 (pc2 := 10) (lv2 := [some (az_r 1), some (az_i (n)), some (az_i (zs k (fun t => az_b (1 ≤ zrh S t ∧ zrh S t ≤ n)))), some (az_i (((k : Nat) : Int)))]) (st2 := [az_i (((zn S 1 : Nat) : Int)), az_i (((k : Nat) : Int))]) (s2 := s) rfl ?_
    refine az_if2 35 13 rfl (by decide) (by first | assumption | exact ⟨by omega, by omega⟩) (by first | assumption | exact ⟨by omega, by omega⟩) (fun h1 => ?_) (fun h1 => ?_)
    · have h1 : ((zn S 1 : Nat) : Int) ≤ ((k : Nat) : Int) := h1
      refine az_to 1 (pc2 := 36) (lv2 := [some (az_r 1), some (az_i (n)), some (az_i (zs k (fun t => az_b (1 ≤ zrh S t ∧ zrh S t ≤ n)))), some (az_i (((k : Nat) : Int)))]) (st2 := [az_i (zs k (fun t => az_b (1 ≤ zrh S t ∧ zrh S t ≤ n)))]) (s2 := s) rfl ?_
      refine az_retI rfl rfl ?_
      obtain rfl : k = zn S 1 := by omega
      exact ⟨rfl, rfl⟩
    · have h1 : ¬ (((zn S 1 : Nat) : Int) ≤ ((k : Nat) : Int)) := h1
      have hzr := zrh_r hI hh (t := k) (by omega)
      refine az_to 2 (pc2 := 15) (lv2 := [some (az_r 1), some (az_i (n)), some (az_i (zs k (fun t => az_b (1 ≤ zrh S t ∧ zrh S t ≤ n)))), some (az_i (((k : Nat) : Int)))]) (st2 := [az_i (((k : Nat) : Int)), az_r 1]) (s2 := s) rfl ?_
      refine az_clv (v := some (az_i (zrh S k))) (t := s) (m2 := am_m_X8_riddleHours) (as := [az_r 1, az_i (((k : Nat) : Int))]) (rest := []) 18 rfl rfl ⟨rfl, rfl⟩ (by omega) (zs_X8_riddleHours (s := s) (t := k) (by omega) hR hI hh (by omega)) ?_
      refine az_to 0 (pc2 := 18) (lv2 := [some (az_r 1), some (az_i (n)), some (az_i (zs k (fun t => az_b (1 ≤ zrh S t ∧ zrh S t ≤ n)))), some (az_i (((k : Nat) : Int)))]) (st2 := [az_i (zrh S k)]) (s2 := s) rfl ?_
      refine az_to 2 (pc2 := 20) (lv2 := [some (az_r 1), some (az_i (n)), some (az_i (zs k (fun t => az_b (1 ≤ zrh S t ∧ zrh S t ≤ n)))), some (az_i (((k : Nat) : Int)))]) (st2 := [az_i (n), az_i (1), az_i (zrh S k)]) (s2 := s) rfl ?_
      refine az_clv (v := some (az_i (az_b (1 ≤ (zrh S k) ∧ (zrh S k) ≤ n)))) (t := s) (m2 := am_m_X9_isWithin) (as := [az_i (zrh S k), az_i (1), az_i (n)]) (rest := []) 23 rfl rfl ⟨rfl, rfl⟩ (by omega) (zs_X9_isWithin (s := s) (z := (zrh S k)) (lo := 1) (hi := n) (by omega) (by first | assumption | exact ⟨by omega, by omega⟩) ⟨by decide, by decide⟩ (by first | assumption | exact ⟨by omega, by omega⟩)) ?_
      refine az_to 0 (pc2 := 23) (lv2 := [some (az_r 1), some (az_i (n)), some (az_i (zs k (fun t => az_b (1 ≤ zrh S t ∧ zrh S t ≤ n)))), some (az_i (((k : Nat) : Int)))]) (st2 := [az_i (az_b (1 ≤ (zrh S k) ∧ (zrh S k) ≤ n))]) (s2 := s) rfl ?_
      refine az_ifbe 29 26 rfl (by decide) (fun h2 => ?_) (fun h2 => ?_)
      · have h2 : ¬ (1 ≤ (zrh S k) ∧ (zrh S k) ≤ n) := h2
        refine az_to 2 (pc2 := 4) (lv2 := [some (az_r 1), some (az_i (n)), some (az_i (zs k (fun t => az_b (1 ≤ zrh S t ∧ zrh S t ≤ n)))), some (az_i ((((k : Nat) : Int) + 1)))]) (st2 := []) (s2 := s) rfl ?_
        have e9 : zs k (fun t => az_b (1 ≤ zrh S t ∧ zrh S t ≤ n)) = zs (k + 1) (fun t => az_b (1 ≤ zrh S t ∧ zrh S t ≤ n)) := by
          show _ = zs k _ + _
          dsimp only; rw [az_b0 (by assumption), Int.add_zero]
        rw [e9]
        exact ih _ (by omega) (k + 1) rfl (by omega)
      · have h2 : 1 ≤ (zrh S k) ∧ (zrh S k) ≤ n := h2
        refine az_to 3 (pc2 := 4) (lv2 := [some (az_r 1), some (az_i (n)), some (az_i ((zs k (fun t => az_b (1 ≤ zrh S t ∧ zrh S t ≤ n)) + 1))), some (az_i ((((k : Nat) : Int) + 1)))]) (st2 := []) (s2 := s) rfl ?_
        have e9 : (zs k (fun t => az_b (1 ≤ zrh S t ∧ zrh S t ≤ n)) + 1) = zs (k + 1) (fun t => az_b (1 ≤ zrh S t ∧ zrh S t ≤ n)) := by
          show _ = zs k _ + _
          dsimp only; rw [az_b1 (by assumption)]
        rw [e9]
        exact ih _ (by omega) (k + 1) rfl (by omega)
set_option maxRecDepth 100000 in
set_option maxHeartbeats 800000 in
theorem zs_X8_countRiddles {d : Nat} {s : az_S} (hd : 2 ≤ d) {S : zR} {h : Nat} (hR : zRel (s 3) S) (hI : zInv S h) (hh : h ≤ 10000) {n : Int} (hn : az_in n) : az_R d am_m_X8_countRiddles 0 (az_ini (am_mL am_m_X8_countRiddles) [az_r 1, az_i (n)]) [] (s) (az_ret (some (az_i (zcr S n))) (s)) := by
  have hz := zI_h hI hh
  refine az_to 0 (pc2 := 0) (lv2 := [some (az_r 1), some (az_i (n)), none, none]) (st2 := []) (s2 := s) rfl ?_
  refine az_to 4 (pc2 := 4) (lv2 := [some (az_r 1), some (az_i (n)), some (az_i (0)), some (az_i (0))]) (st2 := []) (s2 := s) rfl ?_
  exact zs_X8_countRiddles_L4 (by omega) hR hI hh hn _ 0 rfl (by omega)
set_option maxRecDepth 100000 in
set_option maxHeartbeats 800000 in
theorem zs_X8_isGeneralStrike {d : Nat} {s : az_S} (hd : 2 ≤ d) {S : zR} {h : Nat} (hR : zRel (s 3) S) (hI : zInv S h) (hh : h ≤ 10000) : az_R d am_m_X8_isGeneralStrike 0 (az_ini (am_mL am_m_X8_isGeneralStrike) [az_r 1]) [] (s) (az_ret (some (az_i (az_b (zgen S)))) (s)) := by
  have hz := zI_h hI hh
  have hzs := zstr_r hI hh
  have hze : zsg S 2 = zstr S := rfl
  rw [← hze] at hzs
  refine az_to 0 (pc2 := 0) (lv2 := [some (az_r 1), none]) (st2 := []) (s2 := s) rfl ?_
  refine az_to 2 (pc2 := 2) (lv2 := [some (az_r 1), none]) (st2 := [az_i (2), az_r 1]) (s2 := s) rfl ?_
  refine az_clv (v := some (az_i (zsg S 2))) (t := s) (m2 := am_m_X8_sumOfGoats) (as := [az_r 1, az_i (2)]) (rest := []) 5 rfl rfl ⟨rfl, rfl⟩ (by omega) (zs_X8_sumOfGoats (s := s) (k0 := 2) (by omega) hR hI hh (by omega)) ?_
  refine az_to 0 (pc2 := 5) (lv2 := [some (az_r 1), none]) (st2 := [az_i (zsg S 2)]) (s2 := s) rfl ?_
  refine az_to 4 (pc2 := 9) (lv2 := [some (az_r 1), some (az_i (zsg S 2))]) (st2 := [az_i (4), az_r 1, az_i (zsg S 2)]) (s2 := s) rfl ?_
  refine az_clv (v := some (az_i (((zn S 2 : Nat) : Int)))) (t := s) (m2 := am_m_X8_of) (as := [az_r 1, az_i (4)]) (rest := [az_i (zsg S 2)]) 12 rfl rfl ⟨rfl, rfl⟩ (by omega) (zs_X8_of_4 (s := s)  (by omega) hR hI hh) ?_
  refine az_to 0 (pc2 := 12) (lv2 := [some (az_r 1), some (az_i (zsg S 2))]) (st2 := [az_i (((zn S 2 : Nat) : Int)), az_i (zsg S 2)]) (s2 := s) rfl ?_
  refine az_to 2 (pc2 := 14) (lv2 := [some (az_r 1), some (az_i (zsg S 2))]) (st2 := [az_i ((((zn S 2 : Nat) : Int) - zsg S 2)), az_i (zsg S 2)]) (s2 := s) rfl ?_
  refine az_if2 21 17 rfl (by decide) (by first | assumption | exact ⟨by omega, by omega⟩) (by first | assumption | exact ⟨by omega, by omega⟩) (fun h1 => ?_) (fun h1 => ?_)
  · have h1 : zsg S 2 ≤ (((zn S 2 : Nat) : Int) - zsg S 2) := h1
    refine az_to 1 (pc2 := 22) (lv2 := [some (az_r 1), some (az_i (zsg S 2))]) (st2 := [az_i (0)]) (s2 := s) rfl ?_
    refine az_retB rfl rfl (by first | decide | omega | exact Or.inl rfl | exact Or.inr rfl) ?_
    exact ⟨by rw [az_b0 (by unfold zgen; rw [← hze]; omega)], rfl⟩
  · have h1 : ¬ (zsg S 2 ≤ (((zn S 2 : Nat) : Int) - zsg S 2)) := h1
    refine az_to 2 (pc2 := 22) (lv2 := [some (az_r 1), some (az_i (zsg S 2))]) (st2 := [az_i (1)]) (s2 := s) rfl ?_
    refine az_retB rfl rfl (by first | decide | omega | exact Or.inl rfl | exact Or.inr rfl) ?_
    exact ⟨by rw [az_b1 (by unfold zgen; rw [← hze]; omega)], rfl⟩
set_option maxRecDepth 100000 in
set_option maxHeartbeats 800000 in
theorem zs_X8_tollDue {d : Nat} {s : az_S} (hd : 3 ≤ d) {S : zR} {h : Nat} (hR : zRel (s 3) S) (hI : zInv S h) (hh : h ≤ 10000) {b : Nat} (hb : b < zn S 0) : az_R d am_m_X8_tollDue 0 (az_ini (am_mL am_m_X8_tollDue) [az_r 1, az_i (((b : Nat) : Int))]) [] (s) (az_ret (some (az_i (zdue S b))) (s)) := by
  have hz := zI_h hI hh
  have hzb := zI_b hI hh hb
  refine az_to 0 (pc2 := 0) (lv2 := [some (az_r 1), some (az_i (((b : Nat) : Int)))]) (st2 := []) (s2 := s) rfl ?_
  refine az_to 2 (pc2 := 2) (lv2 := [some (az_r 1), some (az_i (((b : Nat) : Int)))]) (st2 := [az_i (((b : Nat) : Int)), az_r 1]) (s2 := s) rfl ?_
  refine az_clv (v := some (az_i (az_b (0 ≤ zat S b)))) (t := s) (m2 := am_m_X8_isCounted) (as := [az_r 1, az_i (((b : Nat) : Int))]) (rest := []) 5 rfl rfl ⟨rfl, rfl⟩ (by omega) (zs_X8_isCounted (s := s) (b := b) (by omega) hR hI hh (by omega)) ?_
  refine az_to 0 (pc2 := 5) (lv2 := [some (az_r 1), some (az_i (((b : Nat) : Int)))]) (st2 := [az_i (az_b (0 ≤ zat S b))]) (s2 := s) rfl ?_
  refine az_ifbe 24 8 rfl (by decide) (fun h1 => ?_) (fun h1 => ?_)
  · have h1 : ¬ (0 ≤ zat S b) := h1
    refine az_to 1 (pc2 := 25) (lv2 := [some (az_r 1), some (az_i (((b : Nat) : Int)))]) (st2 := [az_i (0)]) (s2 := s) rfl ?_
    refine az_retI rfl rfl ?_
    exact ⟨by unfold zdue; split <;> first | rfl | (rename_i q; exact absurd ⟨by assumption, by assumption⟩ q) | (rename_i q; exact absurd q.1 (by assumption)) | (rename_i q; exact absurd (by assumption) q.2), rfl⟩
  · have h1 : 0 ≤ zat S b := h1
    refine az_to 1 (pc2 := 9) (lv2 := [some (az_r 1), some (az_i (((b : Nat) : Int)))]) (st2 := [az_r 1]) (s2 := s) rfl ?_
    refine az_clv (v := some (az_i (az_b (zgen S)))) (t := s) (m2 := am_m_X8_isGeneralStrike) (as := [az_r 1]) (rest := []) 12 rfl rfl ⟨rfl, rfl⟩ (by omega) (zs_X8_isGeneralStrike (s := s)  (by omega) hR hI hh) ?_
    refine az_to 0 (pc2 := 12) (lv2 := [some (az_r 1), some (az_i (((b : Nat) : Int)))]) (st2 := [az_i (az_b (zgen S))]) (s2 := s) rfl ?_
    refine az_ifbn 24 15 rfl (by decide) (fun h2 => ?_) (fun h2 => ?_)
    · have h2 : zgen S := h2
      refine az_to 1 (pc2 := 25) (lv2 := [some (az_r 1), some (az_i (((b : Nat) : Int)))]) (st2 := [az_i (0)]) (s2 := s) rfl ?_
      refine az_retI rfl rfl ?_
      exact ⟨by unfold zdue; split <;> first | rfl | (rename_i q; exact absurd ⟨by assumption, by assumption⟩ q) | (rename_i q; exact absurd q.1 (by assumption)) | (rename_i q; exact absurd (by assumption) q.2), rfl⟩
    · have h2 : ¬ (zgen S) := h2
      refine az_to 3 (pc2 := 18) (lv2 := [some (az_r 1), some (az_i (((b : Nat) : Int)))]) (st2 := [az_i (3), az_i (((b : Nat) : Int)), az_r 1]) (s2 := s) rfl ?_
      refine az_clv (v := some (az_i (zB S b 3))) (t := s) (m2 := am_m_X8_ofBridge) (as := [az_r 1, az_i (((b : Nat) : Int)), az_i (3)]) (rest := []) 21 rfl rfl ⟨rfl, rfl⟩ (by omega) (zs_X8_ofBridge (s := s) (b := b) (k := 3) (by omega) hR (by omega) (by omega) (by omega)) ?_
      refine az_to 0 (pc2 := 21) (lv2 := [some (az_r 1), some (az_i (((b : Nat) : Int)))]) (st2 := [az_i (zB S b 3)]) (s2 := s) rfl ?_
      refine az_to 1 (pc2 := 25) (lv2 := [some (az_r 1), some (az_i (((b : Nat) : Int)))]) (st2 := [az_i (zB S b 3)]) (s2 := s) rfl ?_
      refine az_retI rfl rfl ?_
      exact ⟨by unfold zdue; split <;> first | rfl | (rename_i q; exact absurd ⟨by assumption, by assumption⟩ q) | (rename_i q; exact absurd q.1 (by assumption)) | (rename_i q; exact absurd (by assumption) q.2), rfl⟩
set_option maxRecDepth 100000 in
set_option maxHeartbeats 800000 in
theorem zs_X8_hoursOver {d : Nat} {s : az_S} (hd : 3 ≤ d) {S : zR} {h : Nat} (hR : zRel (s 3) S) (hI : zInv S h) (hh : h ≤ 10000) {b : Nat} (hb : b < zn S 0) : az_R d am_m_X8_hoursOver 0 (az_ini (am_mL am_m_X8_hoursOver) [az_r 1, az_i (((b : Nat) : Int))]) [] (s) (az_ret (some (az_i (ztk S b))) (s)) := by
  have hz := zI_h hI hh
  have hzb := zI_b hI hh hb
  refine az_to 0 (pc2 := 0) (lv2 := [some (az_r 1), some (az_i (((b : Nat) : Int))), none, none]) (st2 := []) (s2 := s) rfl ?_
  refine az_to 3 (pc2 := 3) (lv2 := [some (az_r 1), some (az_i (((b : Nat) : Int))), none, none]) (st2 := [az_i (2), az_i (((b : Nat) : Int)), az_r 1]) (s2 := s) rfl ?_
  refine az_clv (v := some (az_i (zB S b 2))) (t := s) (m2 := am_m_X8_ofBridge) (as := [az_r 1, az_i (((b : Nat) : Int)), az_i (2)]) (rest := []) 6 rfl rfl ⟨rfl, rfl⟩ (by omega) (zs_X8_ofBridge (s := s) (b := b) (k := 2) (by omega) hR (by omega) (by omega) (by omega)) ?_
  refine az_to 0 (pc2 := 6) (lv2 := [some (az_r 1), some (az_i (((b : Nat) : Int))), none, none]) (st2 := [az_i (zB S b 2)]) (s2 := s) rfl ?_
  refine az_to 3 (pc2 := 9) (lv2 := [some (az_r 1), some (az_i (((b : Nat) : Int))), some (az_i (zB S b 2)), none]) (st2 := [az_i (((b : Nat) : Int)), az_r 1]) (s2 := s) rfl ?_
  refine az_clv (v := some (az_i (az_b (S 3 < zB S b 4)))) (t := s) (m2 := am_m_X8_isInFog) (as := [az_r 1, az_i (((b : Nat) : Int))]) (rest := []) 12 rfl rfl ⟨rfl, rfl⟩ (by omega) (zs_X8_isInFog (s := s) (b := b) (by omega) hR hI hh (by omega)) ?_
  refine az_to 0 (pc2 := 12) (lv2 := [some (az_r 1), some (az_i (((b : Nat) : Int))), some (az_i (zB S b 2)), none]) (st2 := [az_i (az_b (S 3 < zB S b 4))]) (s2 := s) rfl ?_
  refine az_ifbe 21 15 rfl (by decide) (fun h1 => ?_) (fun h1 => ?_)
  · have h1 : ¬ (S 3 < zB S b 4) := h1
    refine az_to 4 (pc2 := 25) (lv2 := [some (az_r 1), some (az_i (((b : Nat) : Int))), some (az_i (zB S b 2)), some (az_i (zB S b 2))]) (st2 := [az_i (((b : Nat) : Int)), az_r 1]) (s2 := s) rfl ?_
    refine az_clv (v := some (az_i (az_b (0 ≤ zat S b)))) (t := s) (m2 := am_m_X8_isCounted) (as := [az_r 1, az_i (((b : Nat) : Int))]) (rest := []) 28 rfl rfl ⟨rfl, rfl⟩ (by omega) (zs_X8_isCounted (s := s) (b := b) (by omega) hR hI hh (by omega)) ?_
    refine az_to 0 (pc2 := 28) (lv2 := [some (az_r 1), some (az_i (((b : Nat) : Int))), some (az_i (zB S b 2)), some (az_i (zB S b 2))]) (st2 := [az_i (az_b (0 ≤ zat S b))]) (s2 := s) rfl ?_
    refine az_ifbe 46 31 rfl (by decide) (fun h2 => ?_) (fun h2 => ?_)
    · have h2 : ¬ (0 ≤ zat S b) := h2
      refine az_to 1 (pc2 := 47) (lv2 := [some (az_r 1), some (az_i (((b : Nat) : Int))), some (az_i (zB S b 2)), some (az_i (zB S b 2))]) (st2 := [az_i (zB S b 2)]) (s2 := s) rfl ?_
      refine az_retI rfl rfl ?_
      exact ⟨by unfold ztk; simp only [*, if_true, if_false, Int.add_zero], rfl⟩
    · have h2 : 0 ≤ zat S b := h2
      refine az_to 5 (pc2 := 36) (lv2 := [some (az_r 1), some (az_i (((b : Nat) : Int))), some (az_i (zB S b 2)), some (az_i (zB S b 2))]) (st2 := [az_i (4), az_i (((b : Nat) : Int)), az_r 1, az_r 1, az_i (zB S b 2)]) (s2 := s) rfl ?_
      refine az_clv (v := some (az_i (zat S b))) (t := s) (m2 := am_m_X8_ofBridge) (as := [az_r 1, az_i (((b : Nat) : Int)), az_i (4)]) (rest := [az_r 1, az_i (zB S b 2)]) 39 rfl rfl ⟨rfl, rfl⟩ (by omega) (zs_X8_ofBridge (s := s) (b := b) (k := 4) (by omega) hR (by omega) (by omega) (by omega)) ?_
      refine az_to 0 (pc2 := 39) (lv2 := [some (az_r 1), some (az_i (((b : Nat) : Int))), some (az_i (zB S b 2)), some (az_i (zB S b 2))]) (st2 := [az_i (zat S b), az_r 1, az_i (zB S b 2)]) (s2 := s) rfl ?_
      refine az_clv (v := some (az_i (zdn S (zat S b).toNat))) (t := s) (m2 := am_m_X8_difficultyNow) (as := [az_r 1, az_i (zat S b)]) (rest := [az_i (zB S b 2)]) 42 rfl rfl ⟨rfl, rfl⟩ (by omega) (zs_X8_difficultyNow_i (s := s) (z := (zat S b)) (by omega) hR hI hh (by omega)) ?_
      refine az_to 0 (pc2 := 42) (lv2 := [some (az_r 1), some (az_i (((b : Nat) : Int))), some (az_i (zB S b 2)), some (az_i (zB S b 2))]) (st2 := [az_i (zdn S (zat S b).toNat), az_i (zB S b 2)]) (s2 := s) rfl ?_
      refine az_to 2 (pc2 := 47) (lv2 := [some (az_r 1), some (az_i (((b : Nat) : Int))), some (az_i (zB S b 2)), some (az_i (zB S b 2))]) (st2 := [az_i ((zB S b 2 + zdn S (zat S b).toNat))]) (s2 := s) rfl ?_
      refine az_retI rfl rfl ?_
      exact ⟨by unfold ztk; simp only [*, if_true, if_false, Int.add_zero], rfl⟩
  · have h1 : S 3 < zB S b 4 := h1
    refine az_to 7 (pc2 := 25) (lv2 := [some (az_r 1), some (az_i (((b : Nat) : Int))), some (az_i (zB S b 2)), some (az_i ((2 * zB S b 2)))]) (st2 := [az_i (((b : Nat) : Int)), az_r 1]) (s2 := s) rfl ?_
    refine az_clv (v := some (az_i (az_b (0 ≤ zat S b)))) (t := s) (m2 := am_m_X8_isCounted) (as := [az_r 1, az_i (((b : Nat) : Int))]) (rest := []) 28 rfl rfl ⟨rfl, rfl⟩ (by omega) (zs_X8_isCounted (s := s) (b := b) (by omega) hR hI hh (by omega)) ?_
    refine az_to 0 (pc2 := 28) (lv2 := [some (az_r 1), some (az_i (((b : Nat) : Int))), some (az_i (zB S b 2)), some (az_i ((2 * zB S b 2)))]) (st2 := [az_i (az_b (0 ≤ zat S b))]) (s2 := s) rfl ?_
    refine az_ifbe 46 31 rfl (by decide) (fun h3 => ?_) (fun h3 => ?_)
    · have h3 : ¬ (0 ≤ zat S b) := h3
      refine az_to 1 (pc2 := 47) (lv2 := [some (az_r 1), some (az_i (((b : Nat) : Int))), some (az_i (zB S b 2)), some (az_i ((2 * zB S b 2)))]) (st2 := [az_i ((2 * zB S b 2))]) (s2 := s) rfl ?_
      refine az_retI rfl rfl ?_
      exact ⟨by unfold ztk; simp only [*, if_true, if_false, Int.add_zero], rfl⟩
    · have h3 : 0 ≤ zat S b := h3
      refine az_to 5 (pc2 := 36) (lv2 := [some (az_r 1), some (az_i (((b : Nat) : Int))), some (az_i (zB S b 2)), some (az_i ((2 * zB S b 2)))]) (st2 := [az_i (4), az_i (((b : Nat) : Int)), az_r 1, az_r 1, az_i ((2 * zB S b 2))]) (s2 := s) rfl ?_
      refine az_clv (v := some (az_i (zat S b))) (t := s) (m2 := am_m_X8_ofBridge) (as := [az_r 1, az_i (((b : Nat) : Int)), az_i (4)]) (rest := [az_r 1, az_i ((2 * zB S b 2))]) 39 rfl rfl ⟨rfl, rfl⟩ (by omega) (zs_X8_ofBridge (s := s) (b := b) (k := 4) (by omega) hR (by omega) (by omega) (by omega)) ?_
      refine az_to 0 (pc2 := 39) (lv2 := [some (az_r 1), some (az_i (((b : Nat) : Int))), some (az_i (zB S b 2)), some (az_i ((2 * zB S b 2)))]) (st2 := [az_i (zat S b), az_r 1, az_i ((2 * zB S b 2))]) (s2 := s) rfl ?_
      refine az_clv (v := some (az_i (zdn S (zat S b).toNat))) (t := s) (m2 := am_m_X8_difficultyNow) (as := [az_r 1, az_i (zat S b)]) (rest := [az_i ((2 * zB S b 2))]) 42 rfl rfl ⟨rfl, rfl⟩ (by omega) (zs_X8_difficultyNow_i (s := s) (z := (zat S b)) (by omega) hR hI hh (by omega)) ?_
      refine az_to 0 (pc2 := 42) (lv2 := [some (az_r 1), some (az_i (((b : Nat) : Int))), some (az_i (zB S b 2)), some (az_i ((2 * zB S b 2)))]) (st2 := [az_i (zdn S (zat S b).toNat), az_i ((2 * zB S b 2))]) (s2 := s) rfl ?_
      refine az_to 2 (pc2 := 47) (lv2 := [some (az_r 1), some (az_i (((b : Nat) : Int))), some (az_i (zB S b 2)), some (az_i ((2 * zB S b 2)))]) (st2 := [az_i (((2 * zB S b 2) + zdn S (zat S b).toNat))]) (s2 := s) rfl ?_
      refine az_retI rfl rfl ?_
      exact ⟨by unfold ztk; simp only [*, if_true, if_false, Int.add_zero], rfl⟩
set_option maxRecDepth 100000 in
set_option maxHeartbeats 800000 in
theorem zs_X8_across {d : Nat} {s : az_S} (hd : 2 ≤ d) {S : zR} {h : Nat} (hR : zRel (s 3) S) (hI : zInv S h) (hh : h ≤ 10000) {b : Nat} (hb : b < zn S 0) {l : Int} (hl : az_in l) : az_R d am_m_X8_across 0 (az_ini (am_mL am_m_X8_across) [az_r 1, az_i (((b : Nat) : Int)), az_i (l)]) [] (s) (az_ret (some (az_i (zac S b l))) (s)) := by
  have hz := zI_h hI hh
  have hzb := zI_b hI hh hb
  refine az_to 0 (pc2 := 0) (lv2 := [some (az_r 1), some (az_i (((b : Nat) : Int))), some (az_i (l))]) (st2 := []) (s2 := s) rfl ?_
  refine az_to 3 (pc2 := 3) (lv2 := [some (az_r 1), some (az_i (((b : Nat) : Int))), some (az_i (l))]) (st2 := [az_i (0), az_i (((b : Nat) : Int)), az_r 1]) (s2 := s) rfl ?_
  refine az_clv (v := some (az_i (zB S b 0))) (t := s) (m2 := am_m_X8_ofBridge) (as := [az_r 1, az_i (((b : Nat) : Int)), az_i (0)]) (rest := []) 6 rfl rfl ⟨rfl, rfl⟩ (by omega) (zs_X8_ofBridge (s := s) (b := b) (k := 0) (by omega) hR (by omega) (by omega) (by omega)) ?_
  refine az_to 0 (pc2 := 6) (lv2 := [some (az_r 1), some (az_i (((b : Nat) : Int))), some (az_i (l))]) (st2 := [az_i (zB S b 0)]) (s2 := s) rfl ?_
  refine az_to 1 (pc2 := 7) (lv2 := [some (az_r 1), some (az_i (((b : Nat) : Int))), some (az_i (l))]) (st2 := [az_i (l), az_i (zB S b 0)]) (s2 := s) rfl ?_
  refine az_if2 17 10 rfl (by decide) (by first | assumption | exact ⟨by omega, by omega⟩) (by first | assumption | exact ⟨by omega, by omega⟩) (fun h1 => ?_) (fun h1 => ?_)
  · have h1 : ¬ zB S b 0 = l := h1
    refine az_to 3 (pc2 := 20) (lv2 := [some (az_r 1), some (az_i (((b : Nat) : Int))), some (az_i (l))]) (st2 := [az_i (1), az_i (((b : Nat) : Int)), az_r 1]) (s2 := s) rfl ?_
    refine az_clv (v := some (az_i (zB S b 1))) (t := s) (m2 := am_m_X8_ofBridge) (as := [az_r 1, az_i (((b : Nat) : Int)), az_i (1)]) (rest := []) 23 rfl rfl ⟨rfl, rfl⟩ (by omega) (zs_X8_ofBridge (s := s) (b := b) (k := 1) (by omega) hR (by omega) (by omega) (by omega)) ?_
    refine az_to 0 (pc2 := 23) (lv2 := [some (az_r 1), some (az_i (((b : Nat) : Int))), some (az_i (l))]) (st2 := [az_i (zB S b 1)]) (s2 := s) rfl ?_
    refine az_to 1 (pc2 := 24) (lv2 := [some (az_r 1), some (az_i (((b : Nat) : Int))), some (az_i (l))]) (st2 := [az_i (l), az_i (zB S b 1)]) (s2 := s) rfl ?_
    refine az_if2 36 27 rfl (by decide) (by first | assumption | exact ⟨by omega, by omega⟩) (by first | assumption | exact ⟨by omega, by omega⟩) (fun h2 => ?_) (fun h2 => ?_)
    · have h2 : ¬ zB S b 1 = l := h2
      refine az_to 1 (pc2 := 37) (lv2 := [some (az_r 1), some (az_i (((b : Nat) : Int))), some (az_i (l))]) (st2 := [az_i (-1)]) (s2 := s) rfl ?_
      refine az_retI rfl rfl ?_
      exact ⟨by unfold zac; simp only [*, if_true, if_false], rfl⟩
    · have h2 : zB S b 1 = l := Decidable.not_not.mp h2
      refine az_to 3 (pc2 := 30) (lv2 := [some (az_r 1), some (az_i (((b : Nat) : Int))), some (az_i (l))]) (st2 := [az_i (0), az_i (((b : Nat) : Int)), az_r 1]) (s2 := s) rfl ?_
      refine az_clv (v := some (az_i (zB S b 0))) (t := s) (m2 := am_m_X8_ofBridge) (as := [az_r 1, az_i (((b : Nat) : Int)), az_i (0)]) (rest := []) 33 rfl rfl ⟨rfl, rfl⟩ (by omega) (zs_X8_ofBridge (s := s) (b := b) (k := 0) (by omega) hR (by omega) (by omega) (by omega)) ?_
      refine az_to 0 (pc2 := 33) (lv2 := [some (az_r 1), some (az_i (((b : Nat) : Int))), some (az_i (l))]) (st2 := [az_i (zB S b 0)]) (s2 := s) rfl ?_
      refine az_to 1 (pc2 := 37) (lv2 := [some (az_r 1), some (az_i (((b : Nat) : Int))), some (az_i (l))]) (st2 := [az_i (zB S b 0)]) (s2 := s) rfl ?_
      refine az_retI rfl rfl ?_
      exact ⟨by unfold zac; simp only [*, if_true, if_false], rfl⟩
  · have h1 : zB S b 0 = l := Decidable.not_not.mp h1
    refine az_to 3 (pc2 := 13) (lv2 := [some (az_r 1), some (az_i (((b : Nat) : Int))), some (az_i (l))]) (st2 := [az_i (1), az_i (((b : Nat) : Int)), az_r 1]) (s2 := s) rfl ?_
    refine az_clv (v := some (az_i (zB S b 1))) (t := s) (m2 := am_m_X8_ofBridge) (as := [az_r 1, az_i (((b : Nat) : Int)), az_i (1)]) (rest := []) 16 rfl rfl ⟨rfl, rfl⟩ (by omega) (zs_X8_ofBridge (s := s) (b := b) (k := 1) (by omega) hR (by omega) (by omega) (by omega)) ?_
    refine az_to 0 (pc2 := 16) (lv2 := [some (az_r 1), some (az_i (((b : Nat) : Int))), some (az_i (l))]) (st2 := [az_i (zB S b 1)]) (s2 := s) rfl ?_
    refine az_retI rfl rfl ?_
    exact ⟨by unfold zac; simp only [*, if_true, if_false], rfl⟩

