/-! REFERENCE, 1: its numbers and sums; written by program (wip/tools/zg/r1.py) -/
theorem az_b_iff {p q : Prop} [Decidable p] [Decidable q] (h : p ↔ q) : az_b p = az_b q := by
  unfold az_b
  by_cases w : p
  · rw [if_pos w, if_pos (h.mp w)]
  · rw [if_neg w, if_neg (fun w2 => w (h.mpr w2))]
def zhl (S : zR) : Int := zs (zn S 1) (fun t => az_b (S 3 < zT S t 3))
set_option maxRecDepth 100000 in
set_option maxHeartbeats 800000 in
theorem zs_X10_isIn {d : Nat} {s : az_S} (hd : 0 ≤ d) {z lo hi : Int} (h1 : az_in z) (h2 : az_in lo) (h3 : az_in hi) : az_R d am_m_X10_isIn 0 (az_ini (am_mL am_m_X10_isIn) [az_i (z), az_i (lo), az_i (hi)]) [] (s) (az_ret (some (az_i (az_b (lo ≤ z ∧ z ≤ hi)))) (s)) := by
  refine az_to 0 (pc2 := 0) (lv2 := [some (az_i (z)), some (az_i (lo)), some (az_i (hi))]) (st2 := []) (s2 := s) rfl ?_
  refine az_to 2 (pc2 := 2) (lv2 := [some (az_i (z)), some (az_i (lo)), some (az_i (hi))]) (st2 := [az_i (lo), az_i (z)]) (s2 := s) rfl ?_
  refine az_if2 14 5 rfl (by decide) (by first | assumption | exact ⟨by omega, by omega⟩) (by first | assumption | exact ⟨by omega, by omega⟩) (fun h1 => ?_) (fun h1 => ?_)
  · have h1 : z < lo := h1
    refine az_to 1 (pc2 := 15) (lv2 := [some (az_i (z)), some (az_i (lo)), some (az_i (hi))]) (st2 := [az_i (0)]) (s2 := s) rfl ?_
    refine az_retB rfl rfl (by first | decide | omega | exact Or.inl rfl | exact Or.inr rfl) ?_
    exact ⟨by rw [az_b0 (by omega)], rfl⟩
  · have h1 : ¬ (z < lo) := h1
    refine az_to 2 (pc2 := 7) (lv2 := [some (az_i (z)), some (az_i (lo)), some (az_i (hi))]) (st2 := [az_i (hi), az_i (z)]) (s2 := s) rfl ?_
    refine az_if2 14 10 rfl (by decide) (by first | assumption | exact ⟨by omega, by omega⟩) (by first | assumption | exact ⟨by omega, by omega⟩) (fun h2 => ?_) (fun h2 => ?_)
    · have h2 : hi < z := h2
      refine az_to 1 (pc2 := 15) (lv2 := [some (az_i (z)), some (az_i (lo)), some (az_i (hi))]) (st2 := [az_i (0)]) (s2 := s) rfl ?_
      refine az_retB rfl rfl (by first | decide | omega | exact Or.inl rfl | exact Or.inr rfl) ?_
      exact ⟨by rw [az_b0 (by omega)], rfl⟩
    · have h2 : ¬ (hi < z) := h2
      refine az_to 2 (pc2 := 15) (lv2 := [some (az_i (z)), some (az_i (lo)), some (az_i (hi))]) (st2 := [az_i (1)]) (s2 := s) rfl ?_
      refine az_retB rfl rfl (by first | decide | omega | exact Or.inl rfl | exact Or.inr rfl) ?_
      exact ⟨by rw [az_b1 (by omega)], rfl⟩
set_option maxRecDepth 100000 in
set_option maxHeartbeats 800000 in
theorem zs_X10_greater {d : Nat} {s : az_S} (hd : 0 ≤ d) {x y : Int} (h1 : az_in x) (h2 : az_in y) : az_R d am_m_X10_greater 0 (az_ini (am_mL am_m_X10_greater) [az_i (x), az_i (y)]) [] (s) (az_ret (some (az_i ((if y < x then x else y)))) (s)) := by
  refine az_to 0 (pc2 := 0) (lv2 := [some (az_i (x)), some (az_i (y))]) (st2 := []) (s2 := s) rfl ?_
  refine az_to 2 (pc2 := 2) (lv2 := [some (az_i (x)), some (az_i (y))]) (st2 := [az_i (y), az_i (x)]) (s2 := s) rfl ?_
  refine az_if2 9 5 rfl (by decide) (by first | assumption | exact ⟨by omega, by omega⟩) (by first | assumption | exact ⟨by omega, by omega⟩) (fun h1 => ?_) (fun h1 => ?_)
  · have h1 : x ≤ y := h1
    refine az_to 1 (pc2 := 10) (lv2 := [some (az_i (x)), some (az_i (y))]) (st2 := [az_i (y)]) (s2 := s) rfl ?_
    refine az_retI rfl rfl ?_
    exact ⟨by first | rw [if_pos (by omega)] | rw [if_neg (by omega)], rfl⟩
  · have h1 : ¬ (x ≤ y) := h1
    refine az_to 2 (pc2 := 10) (lv2 := [some (az_i (x)), some (az_i (y))]) (st2 := [az_i (x)]) (s2 := s) rfl ?_
    refine az_retI rfl rfl ?_
    exact ⟨by first | rw [if_pos (by omega)] | rw [if_neg (by omega)], rfl⟩
set_option maxRecDepth 100000 in
set_option maxHeartbeats 800000 in
theorem zs_X10_lesser {d : Nat} {s : az_S} (hd : 0 ≤ d) {x y : Int} (h1 : az_in x) (h2 : az_in y) : az_R d am_m_X10_lesser 0 (az_ini (am_mL am_m_X10_lesser) [az_i (x), az_i (y)]) [] (s) (az_ret (some (az_i ((if x < y then x else y)))) (s)) := by
  refine az_to 0 (pc2 := 0) (lv2 := [some (az_i (x)), some (az_i (y))]) (st2 := []) (s2 := s) rfl ?_
  refine az_to 2 (pc2 := 2) (lv2 := [some (az_i (x)), some (az_i (y))]) (st2 := [az_i (y), az_i (x)]) (s2 := s) rfl ?_
  refine az_if2 9 5 rfl (by decide) (by first | assumption | exact ⟨by omega, by omega⟩) (by first | assumption | exact ⟨by omega, by omega⟩) (fun h1 => ?_) (fun h1 => ?_)
  · have h1 : y ≤ x := h1
    refine az_to 1 (pc2 := 10) (lv2 := [some (az_i (x)), some (az_i (y))]) (st2 := [az_i (y)]) (s2 := s) rfl ?_
    refine az_retI rfl rfl ?_
    exact ⟨by first | rw [if_pos (by omega)] | rw [if_neg (by omega)], rfl⟩
  · have h1 : ¬ (y ≤ x) := h1
    refine az_to 2 (pc2 := 10) (lv2 := [some (az_i (x)), some (az_i (y))]) (st2 := [az_i (x)]) (s2 := s) rfl ?_
    refine az_retI rfl rfl ?_
    exact ⟨by first | rw [if_pos (by omega)] | rw [if_neg (by omega)], rfl⟩
set_option maxRecDepth 100000 in
set_option maxHeartbeats 800000 in
theorem zs_X10_thrown {d : Nat} {s : az_S} (hd : 0 ≤ d)  : az_R d am_m_X10_thrown 0 (az_ini (am_mL am_m_X10_thrown) [az_r 34]) [] (s) (az_ret (some (az_i (s 34 6))) (s)) := by
  refine az_to 0 (pc2 := 0) (lv2 := [some (az_r 34)]) (st2 := []) (s2 := s) rfl ?_
  refine az_to 2 (pc2 := 4) (lv2 := [some (az_r 34)]) (st2 := [az_i (s 34 6)]) (s2 := s) rfl ?_
  refine az_retI rfl rfl ?_
  exact ⟨rfl, rfl⟩
set_option maxRecDepth 100000 in
set_option maxHeartbeats 800000 in
theorem zs_X10_isThrown_t {d : Nat} {s : az_S} (hd : 0 ≤ d) {v : Int} : az_R d am_m_X10_isThrown 0 (az_ini (am_mL am_m_X10_isThrown) [az_r 34, az_i (1), az_i (v)]) [] (s) (az_ret (some (az_i (1))) (am_up s 34 6 (v))) := by
  refine az_to 0 (pc2 := 0) (lv2 := [some (az_r 34), some (az_i (1)), some (az_i (v))]) (st2 := []) (s2 := s) rfl ?_
  refine az_to 2 (pc2 := 2) (lv2 := [some (az_r 34), some (az_i (1)), some (az_i (v))]) (st2 := [az_i (1), az_r 34]) (s2 := s) rfl ?_
  refine az_ifc 9 5 rfl (by decide) ⟨by decide, by decide⟩ (fun h => absurd h (by unfold az_cnd; decide)) (fun _ => ?_)
  refine az_to 4 (pc2 := 14) (lv2 := [some (az_r 34), some (az_i (1)), some (az_i (v))]) (st2 := [az_i (1)]) (s2 := am_up s 34 6 (v)) rfl ?_
  refine az_retB rfl rfl (by first | decide | omega | exact Or.inl rfl | exact Or.inr rfl) ?_
  exact ⟨rfl, rfl⟩
set_option maxRecDepth 100000 in
set_option maxHeartbeats 800000 in
theorem zs_X10_isThrown_f {d : Nat} {s : az_S} (hd : 0 ≤ d) {v : Int} : az_R d am_m_X10_isThrown 0 (az_ini (am_mL am_m_X10_isThrown) [az_r 34, az_i (0), az_i (v)]) [] (s) (az_ret (some (az_i (0))) (am_up s 34 6 (0))) := by
  refine az_to 0 (pc2 := 0) (lv2 := [some (az_r 34), some (az_i (0)), some (az_i (v))]) (st2 := []) (s2 := s) rfl ?_
  refine az_to 2 (pc2 := 2) (lv2 := [some (az_r 34), some (az_i (0)), some (az_i (v))]) (st2 := [az_i (0), az_r 34]) (s2 := s) rfl ?_
  refine az_ifc 9 5 rfl (by decide) ⟨by decide, by decide⟩ (fun _ => ?_) (fun h => absurd (show az_cnd _ _ _ by unfold az_cnd; decide) h)
  refine az_to 3 (pc2 := 14) (lv2 := [some (az_r 34), some (az_i (0)), some (az_i (v))]) (st2 := [az_i (0)]) (s2 := am_up s 34 6 (0)) rfl ?_
  refine az_retB rfl rfl (by first | decide | omega | exact Or.inl rfl | exact Or.inr rfl) ?_
  exact ⟨rfl, rfl⟩
set_option maxRecDepth 100000 in
set_option maxHeartbeats 800000 in
theorem zs_X10_isRefused_t {d : Nat} {s : az_S} (hd : 0 ≤ d) {v w : Int} : az_R d am_m_X10_isRefused 0 (az_ini (am_mL am_m_X10_isRefused) [az_r 34, az_i (1), az_i (v), az_i (w)]) [] (s) (az_ret (some (az_i (1))) (am_up (am_up (am_up (am_up s 34 7 (v)) 34 8 (w)) 34 9 (0)) 34 6 (9))) := by
  refine az_to 0 (pc2 := 0) (lv2 := [some (az_r 34), some (az_i (1)), some (az_i (v)), some (az_i (w))]) (st2 := []) (s2 := s) rfl ?_
  refine az_to 1 (pc2 := 1) (lv2 := [some (az_r 34), some (az_i (1)), some (az_i (v)), some (az_i (w))]) (st2 := [az_i (1)]) (s2 := s) rfl ?_
  refine az_ifc 25 4 rfl (by decide) ⟨by decide, by decide⟩ (fun h => absurd h (by unfold az_cnd; decide)) (fun _ => ?_)
  refine az_to 13 (pc2 := 26) (lv2 := [some (az_r 34), some (az_i (1)), some (az_i (v)), some (az_i (w))]) (st2 := [az_i (1)]) (s2 := am_up (am_up (am_up (am_up s 34 7 (v)) 34 8 (w)) 34 9 (0)) 34 6 (9)) rfl ?_
  refine az_retB rfl rfl (by first | decide | omega | exact Or.inl rfl | exact Or.inr rfl) ?_
  exact ⟨rfl, rfl⟩
set_option maxRecDepth 100000 in
set_option maxHeartbeats 800000 in
theorem zs_X10_isRefused_f {d : Nat} {s : az_S} (hd : 0 ≤ d) {v w : Int} : az_R d am_m_X10_isRefused 0 (az_ini (am_mL am_m_X10_isRefused) [az_r 34, az_i (0), az_i (v), az_i (w)]) [] (s) (az_ret (some (az_i (0))) (s)) := by
  refine az_to 0 (pc2 := 0) (lv2 := [some (az_r 34), some (az_i (0)), some (az_i (v)), some (az_i (w))]) (st2 := []) (s2 := s) rfl ?_
  refine az_to 1 (pc2 := 1) (lv2 := [some (az_r 34), some (az_i (0)), some (az_i (v)), some (az_i (w))]) (st2 := [az_i (0)]) (s2 := s) rfl ?_
  refine az_ifc 25 4 rfl (by decide) ⟨by decide, by decide⟩ (fun _ => ?_) (fun h => absurd (show az_cnd _ _ _ by unfold az_cnd; decide) h)
  refine az_to 1 (pc2 := 26) (lv2 := [some (az_r 34), some (az_i (0)), some (az_i (v)), some (az_i (w))]) (st2 := [az_i (0)]) (s2 := s) rfl ?_
  refine az_retB rfl rfl (by first | decide | omega | exact Or.inl rfl | exact Or.inr rfl) ?_
  exact ⟨rfl, rfl⟩
set_option maxRecDepth 100000 in
set_option maxHeartbeats 800000 in
theorem zs_X10_of {d : Nat} {s : az_S} (hd : 0 ≤ d) {S : zR} (hS : s 35 = S) {b k : Nat} (hb : b < 10) (hk : k < 12) : az_R d am_m_X10_of 0 (az_ini (am_mL am_m_X10_of) [az_r 34, az_i (((b : Nat) : Int)), az_i (((k : Nat) : Int))]) [] (s) (az_ret (some (az_i (zB S b k))) (s)) := by
  refine az_to 0 (pc2 := 0) (lv2 := [some (az_r 34), some (az_i (((b : Nat) : Int))), some (az_i (((k : Nat) : Int)))]) (st2 := []) (s2 := s) rfl ?_
  refine az_to 9 (pc2 := 13) (lv2 := [some (az_r 34), some (az_i (((b : Nat) : Int))), some (az_i (((k : Nat) : Int)))]) (st2 := [az_i (((6 + (12 * ((b : Nat) : Int))) + ((k : Nat) : Int))), az_r 35]) (s2 := s) rfl ?_
  refine az_ld_i 14 rfl rfl (by constructor <;> omega) ⟨by decide, rfl⟩ ?_
  refine az_retI rfl rfl ?_
  exact ⟨by rw [hS]; rfl, rfl⟩
set_option maxRecDepth 100000 in
set_option maxHeartbeats 800000 in
theorem zs_X10_ofTroll {d : Nat} {s : az_S} (hd : 0 ≤ d) {S : zR} (hS : s 35 = S) {t k : Nat} (ht : t < 6) (hk : k < 4) : az_R d am_m_X10_ofTroll 0 (az_ini (am_mL am_m_X10_ofTroll) [az_r 34, az_i (((t : Nat) : Int)), az_i (((k : Nat) : Int))]) [] (s) (az_ret (some (az_i (zT S t k))) (s)) := by
  refine az_to 0 (pc2 := 0) (lv2 := [some (az_r 34), some (az_i (((t : Nat) : Int))), some (az_i (((k : Nat) : Int)))]) (st2 := []) (s2 := s) rfl ?_
  refine az_to 9 (pc2 := 12) (lv2 := [some (az_r 34), some (az_i (((t : Nat) : Int))), some (az_i (((k : Nat) : Int)))]) (st2 := [az_i (((126 + (4 * ((t : Nat) : Int))) + ((k : Nat) : Int))), az_r 35]) (s2 := s) rfl ?_
  refine az_ld_i 13 rfl rfl (by constructor <;> omega) ⟨by decide, rfl⟩ ?_
  refine az_retI rfl rfl ?_
  exact ⟨by rw [hS]; rfl, rfl⟩
set_option maxRecDepth 100000 in
set_option maxHeartbeats 800000 in
theorem zs_X10_ofGoat {d : Nat} {s : az_S} (hd : 0 ≤ d) {S : zR} (hS : s 35 = S) {g k : Nat} (hg : g < 5) (hk : k < 5) : az_R d am_m_X10_ofGoat 0 (az_ini (am_mL am_m_X10_ofGoat) [az_r 34, az_i (((g : Nat) : Int)), az_i (((k : Nat) : Int))]) [] (s) (az_ret (some (az_i (zG S g k))) (s)) := by
  refine az_to 0 (pc2 := 0) (lv2 := [some (az_r 34), some (az_i (((g : Nat) : Int))), some (az_i (((k : Nat) : Int)))]) (st2 := []) (s2 := s) rfl ?_
  refine az_to 9 (pc2 := 13) (lv2 := [some (az_r 34), some (az_i (((g : Nat) : Int))), some (az_i (((k : Nat) : Int)))]) (st2 := [az_i (((150 + (5 * ((g : Nat) : Int))) + ((k : Nat) : Int))), az_r 35]) (s2 := s) rfl ?_
  refine az_ld_i 14 rfl rfl (by constructor <;> omega) ⟨by decide, rfl⟩ ?_
  refine az_retI rfl rfl ?_
  exact ⟨by rw [hS]; rfl, rfl⟩
set_option maxRecDepth 100000 in
set_option maxHeartbeats 800000 in
theorem zs_X10_sets {d : Nat} {s : az_S} (hd : 0 ≤ d) {b k : Nat} {v : Int} (hb : b < 10) (hk : k < 12) : az_R d am_m_X10_sets 0 (az_ini (am_mL am_m_X10_sets) [az_r 34, az_i (((b : Nat) : Int)), az_i (((k : Nat) : Int)), az_i (v)]) [] (s) (az_ret (none) (am_up s 35 (6 + 12 * b + k) (v))) := by
  refine az_to 0 (pc2 := 0) (lv2 := [some (az_r 34), some (az_i (((b : Nat) : Int))), some (az_i (((k : Nat) : Int))), some (az_i (v))]) (st2 := []) (s2 := s) rfl ?_
  refine az_to 10 (pc2 := 14) (lv2 := [some (az_r 34), some (az_i (((b : Nat) : Int))), some (az_i (((k : Nat) : Int))), some (az_i (v))]) (st2 := [az_i (v), az_i (((6 + (12 * ((b : Nat) : Int))) + ((k : Nat) : Int))), az_r 35]) (s2 := s) rfl ?_
  refine az_st_i 15 rfl rfl (by constructor <;> omega) ⟨by decide, rfl⟩ ?_
  refine az_ret0 rfl rfl ?_
  exact ⟨rfl, rfl⟩
set_option maxRecDepth 100000 in
set_option maxHeartbeats 800000 in
theorem zs_X10_setsTroll {d : Nat} {s : az_S} (hd : 0 ≤ d) {t k : Nat} {v : Int} (ht : t < 6) (hk : k < 4) : az_R d am_m_X10_setsTroll 0 (az_ini (am_mL am_m_X10_setsTroll) [az_r 34, az_i (((t : Nat) : Int)), az_i (((k : Nat) : Int)), az_i (v)]) [] (s) (az_ret (none) (am_up s 35 (126 + 4 * t + k) (v))) := by
  refine az_to 0 (pc2 := 0) (lv2 := [some (az_r 34), some (az_i (((t : Nat) : Int))), some (az_i (((k : Nat) : Int))), some (az_i (v))]) (st2 := []) (s2 := s) rfl ?_
  refine az_to 10 (pc2 := 13) (lv2 := [some (az_r 34), some (az_i (((t : Nat) : Int))), some (az_i (((k : Nat) : Int))), some (az_i (v))]) (st2 := [az_i (v), az_i (((126 + (4 * ((t : Nat) : Int))) + ((k : Nat) : Int))), az_r 35]) (s2 := s) rfl ?_
  refine az_st_i 14 rfl rfl (by constructor <;> omega) ⟨by decide, rfl⟩ ?_
  refine az_ret0 rfl rfl ?_
  exact ⟨rfl, rfl⟩
set_option maxRecDepth 100000 in
set_option maxHeartbeats 800000 in
theorem zs_X10_setsGoat {d : Nat} {s : az_S} (hd : 0 ≤ d) {g k : Nat} {v : Int} (hg : g < 5) (hk : k < 5) : az_R d am_m_X10_setsGoat 0 (az_ini (am_mL am_m_X10_setsGoat) [az_r 34, az_i (((g : Nat) : Int)), az_i (((k : Nat) : Int)), az_i (v)]) [] (s) (az_ret (none) (am_up s 35 (150 + 5 * g + k) (v))) := by
  refine az_to 0 (pc2 := 0) (lv2 := [some (az_r 34), some (az_i (((g : Nat) : Int))), some (az_i (((k : Nat) : Int))), some (az_i (v))]) (st2 := []) (s2 := s) rfl ?_
  refine az_to 10 (pc2 := 14) (lv2 := [some (az_r 34), some (az_i (((g : Nat) : Int))), some (az_i (((k : Nat) : Int))), some (az_i (v))]) (st2 := [az_i (v), az_i (((150 + (5 * ((g : Nat) : Int))) + ((k : Nat) : Int))), az_r 35]) (s2 := s) rfl ?_
  refine az_st_i 15 rfl rfl (by constructor <;> omega) ⟨by decide, rfl⟩ ?_
  refine az_ret0 rfl rfl ?_
  exact ⟨rfl, rfl⟩
set_option maxRecDepth 100000 in
set_option maxHeartbeats 800000 in
theorem zs_X10_isLand {d : Nat} {s : az_S} (hd : 1 ≤ d) {z : Int} (h1 : az_in z) : az_R d am_m_X10_isLand 0 (az_ini (am_mL am_m_X10_isLand) [az_i (z)]) [] (s) (az_ret (some (az_i (az_b (0 ≤ z ∧ z ≤ 5)))) (s)) := by
  refine az_to 0 (pc2 := 0) (lv2 := [some (az_i (z))]) (st2 := []) (s2 := s) rfl ?_
  refine az_to 3 (pc2 := 3) (lv2 := [some (az_i (z))]) (st2 := [az_i (5), az_i (0), az_i (z)]) (s2 := s) rfl ?_
  refine az_clv (v := some (az_i (az_b (0 ≤ z ∧ z ≤ 5)))) (t := s) (m2 := am_m_X10_isIn) (as := [az_i (z), az_i (0), az_i (5)]) (rest := []) 6 rfl rfl ⟨rfl, rfl⟩ (by omega) (zs_X10_isIn (s := s) (z := z) (lo := 0) (hi := 5) (by omega) (by first | assumption | exact ⟨by omega, by omega⟩) ⟨by decide, by decide⟩ ⟨by decide, by decide⟩) ?_
  refine az_to 0 (pc2 := 6) (lv2 := [some (az_i (z))]) (st2 := [az_i (az_b (0 ≤ z ∧ z ≤ 5))]) (s2 := s) rfl ?_
  refine az_retP rfl rfl ?_
  exact ⟨rfl, rfl⟩
set_option maxRecDepth 100000 in
set_option maxHeartbeats 800000 in
theorem zs_X10_isBridge {d : Nat} {s : az_S} (hd : 1 ≤ d) {S : zR} {h : Nat} (hS : s 35 = S) (hI : zInv S h) (hh : h ≤ 10000) {z : Int} (hz0 : az_in z) : az_R d am_m_X10_isBridge 0 (az_ini (am_mL am_m_X10_isBridge) [az_r 34, az_i (z)]) [] (s) (az_ret (some (az_i (az_b (0 ≤ z ∧ z < ((zn S 0 : Nat) : Int))))) (s)) := by
  have hz := zI_h hI hh
  have hs0 : s 35 0 = ((zn S 0 : Nat) : Int) := by rw [hS, hz.2.1.1]
  have hs1 : s 35 1 = ((zn S 1 : Nat) : Int) := by rw [hS, hz.2.1.2.1]
  have hs2 : s 35 2 = ((zn S 2 : Nat) : Int) := by rw [hS, hz.2.1.2.2]
  have hs3 : s 35 3 = S 3 := by rw [hS]
  have hs5 : s 35 5 = S 5 := by rw [hS]
  refine az_to 0 (pc2 := 0) (lv2 := [some (az_r 34), some (az_i (z))]) (st2 := []) (s2 := s) rfl ?_
  refine az_to 5 (pc2 := 7) (lv2 := [some (az_r 34), some (az_i (z))]) (st2 := [az_i (0), az_r 35, az_i (0), az_i (z)]) (s2 := s) rfl ?_
  refine az_ld_i 8 rfl rfl (by constructor <;> omega) ⟨by decide, rfl⟩ ?_
  refine az_to 0 (pc2 := 8) (lv2 := [some (az_r 34), some (az_i (z))]) (st2 := [az_i (s 35 0), az_i (0), az_i (z)]) (s2 := s) rfl ?_
  refine az_to 0 (pc2 := 8) (lv2 := [some (az_r 34), some (az_i (z))]) (st2 := [az_i (((zn S 0 : Nat) : Int)), az_i (0), az_i (z)]) (s2 := s) (by rw [show s 35 0 = ((zn S 0 : Nat) : Int) from hs0]; rfl) ?_
  refine az_to 2 (pc2 := 10) (lv2 := [some (az_r 34), some (az_i (z))]) (st2 := [az_i ((((zn S 0 : Nat) : Int) - 1)), az_i (0), az_i (z)]) (s2 := s) rfl ?_
  refine az_clv (v := some (az_i (az_b (0 ≤ z ∧ z ≤ ((((zn S 0 : Nat) : Int) - 1)))))) (t := s) (m2 := am_m_X10_isIn) (as := [az_i (z), az_i (0), az_i ((((zn S 0 : Nat) : Int) - 1))]) (rest := []) 13 rfl rfl ⟨rfl, rfl⟩ (by omega) (zs_X10_isIn (s := s) (z := z) (lo := 0) (hi := ((((zn S 0 : Nat) : Int) - 1))) (by omega) (by first | assumption | exact ⟨by omega, by omega⟩) ⟨by decide, by decide⟩ (by first | assumption | exact ⟨by omega, by omega⟩)) ?_
  refine az_to 0 (pc2 := 13) (lv2 := [some (az_r 34), some (az_i (z))]) (st2 := [az_i (az_b (0 ≤ z ∧ z ≤ ((((zn S 0 : Nat) : Int) - 1))))]) (s2 := s) rfl ?_
  refine az_retP rfl rfl ?_
  exact ⟨by rw [az_b_iff (p := 0 ≤ z ∧ z ≤ ((zn S 0 : Nat) : Int) - 1) (q := 0 ≤ z ∧ z < ((zn S 0 : Nat) : Int)) (by constructor <;> (intro q; omega))], rfl⟩
set_option maxRecDepth 100000 in
set_option maxHeartbeats 800000 in
theorem zs_X10_isTroll {d : Nat} {s : az_S} (hd : 1 ≤ d) {S : zR} {h : Nat} (hS : s 35 = S) (hI : zInv S h) (hh : h ≤ 10000) {z : Int} (hz0 : az_in z) : az_R d am_m_X10_isTroll 0 (az_ini (am_mL am_m_X10_isTroll) [az_r 34, az_i (z)]) [] (s) (az_ret (some (az_i (az_b (0 ≤ z ∧ z < ((zn S 1 : Nat) : Int))))) (s)) := by
  have hz := zI_h hI hh
  have hs0 : s 35 0 = ((zn S 0 : Nat) : Int) := by rw [hS, hz.2.1.1]
  have hs1 : s 35 1 = ((zn S 1 : Nat) : Int) := by rw [hS, hz.2.1.2.1]
  have hs2 : s 35 2 = ((zn S 2 : Nat) : Int) := by rw [hS, hz.2.1.2.2]
  have hs3 : s 35 3 = S 3 := by rw [hS]
  have hs5 : s 35 5 = S 5 := by rw [hS]
  refine az_to 0 (pc2 := 0) (lv2 := [some (az_r 34), some (az_i (z))]) (st2 := []) (s2 := s) rfl ?_
  refine az_to 5 (pc2 := 7) (lv2 := [some (az_r 34), some (az_i (z))]) (st2 := [az_i (1), az_r 35, az_i (0), az_i (z)]) (s2 := s) rfl ?_
  refine az_ld_i 8 rfl rfl (by constructor <;> omega) ⟨by decide, rfl⟩ ?_
  refine az_to 0 (pc2 := 8) (lv2 := [some (az_r 34), some (az_i (z))]) (st2 := [az_i (s 35 1), az_i (0), az_i (z)]) (s2 := s) rfl ?_
  refine az_to 0 (pc2 := 8) (lv2 := [some (az_r 34), some (az_i (z))]) (st2 := [az_i (((zn S 1 : Nat) : Int)), az_i (0), az_i (z)]) (s2 := s) (by rw [show s 35 1 = ((zn S 1 : Nat) : Int) from hs1]; rfl) ?_
  refine az_to 2 (pc2 := 10) (lv2 := [some (az_r 34), some (az_i (z))]) (st2 := [az_i ((((zn S 1 : Nat) : Int) - 1)), az_i (0), az_i (z)]) (s2 := s) rfl ?_
  refine az_clv (v := some (az_i (az_b (0 ≤ z ∧ z ≤ ((((zn S 1 : Nat) : Int) - 1)))))) (t := s) (m2 := am_m_X10_isIn) (as := [az_i (z), az_i (0), az_i ((((zn S 1 : Nat) : Int) - 1))]) (rest := []) 13 rfl rfl ⟨rfl, rfl⟩ (by omega) (zs_X10_isIn (s := s) (z := z) (lo := 0) (hi := ((((zn S 1 : Nat) : Int) - 1))) (by omega) (by first | assumption | exact ⟨by omega, by omega⟩) ⟨by decide, by decide⟩ (by first | assumption | exact ⟨by omega, by omega⟩)) ?_
  refine az_to 0 (pc2 := 13) (lv2 := [some (az_r 34), some (az_i (z))]) (st2 := [az_i (az_b (0 ≤ z ∧ z ≤ ((((zn S 1 : Nat) : Int) - 1))))]) (s2 := s) rfl ?_
  refine az_retP rfl rfl ?_
  exact ⟨by rw [az_b_iff (p := 0 ≤ z ∧ z ≤ ((zn S 1 : Nat) : Int) - 1) (q := 0 ≤ z ∧ z < ((zn S 1 : Nat) : Int)) (by constructor <;> (intro q; omega))], rfl⟩
set_option maxRecDepth 100000 in
set_option maxHeartbeats 800000 in
theorem zs_X10_isGoat {d : Nat} {s : az_S} (hd : 1 ≤ d) {S : zR} {h : Nat} (hS : s 35 = S) (hI : zInv S h) (hh : h ≤ 10000) {z : Int} (hz0 : az_in z) : az_R d am_m_X10_isGoat 0 (az_ini (am_mL am_m_X10_isGoat) [az_r 34, az_i (z)]) [] (s) (az_ret (some (az_i (az_b (0 ≤ z ∧ z < ((zn S 2 : Nat) : Int))))) (s)) := by
  have hz := zI_h hI hh
  have hs0 : s 35 0 = ((zn S 0 : Nat) : Int) := by rw [hS, hz.2.1.1]
  have hs1 : s 35 1 = ((zn S 1 : Nat) : Int) := by rw [hS, hz.2.1.2.1]
  have hs2 : s 35 2 = ((zn S 2 : Nat) : Int) := by rw [hS, hz.2.1.2.2]
  have hs3 : s 35 3 = S 3 := by rw [hS]
  have hs5 : s 35 5 = S 5 := by rw [hS]
  refine az_to 0 (pc2 := 0) (lv2 := [some (az_r 34), some (az_i (z))]) (st2 := []) (s2 := s) rfl ?_
  refine az_to 5 (pc2 := 7) (lv2 := [some (az_r 34), some (az_i (z))]) (st2 := [az_i (2), az_r 35, az_i (0), az_i (z)]) (s2 := s) rfl ?_
  refine az_ld_i 8 rfl rfl (by constructor <;> omega) ⟨by decide, rfl⟩ ?_
  refine az_to 0 (pc2 := 8) (lv2 := [some (az_r 34), some (az_i (z))]) (st2 := [az_i (s 35 2), az_i (0), az_i (z)]) (s2 := s) rfl ?_
  refine az_to 0 (pc2 := 8) (lv2 := [some (az_r 34), some (az_i (z))]) (st2 := [az_i (((zn S 2 : Nat) : Int)), az_i (0), az_i (z)]) (s2 := s) (by rw [show s 35 2 = ((zn S 2 : Nat) : Int) from hs2]; rfl) ?_
  refine az_to 2 (pc2 := 10) (lv2 := [some (az_r 34), some (az_i (z))]) (st2 := [az_i ((((zn S 2 : Nat) : Int) - 1)), az_i (0), az_i (z)]) (s2 := s) rfl ?_
  refine az_clv (v := some (az_i (az_b (0 ≤ z ∧ z ≤ ((((zn S 2 : Nat) : Int) - 1)))))) (t := s) (m2 := am_m_X10_isIn) (as := [az_i (z), az_i (0), az_i ((((zn S 2 : Nat) : Int) - 1))]) (rest := []) 13 rfl rfl ⟨rfl, rfl⟩ (by omega) (zs_X10_isIn (s := s) (z := z) (lo := 0) (hi := ((((zn S 2 : Nat) : Int) - 1))) (by omega) (by first | assumption | exact ⟨by omega, by omega⟩) ⟨by decide, by decide⟩ (by first | assumption | exact ⟨by omega, by omega⟩)) ?_
  refine az_to 0 (pc2 := 13) (lv2 := [some (az_r 34), some (az_i (z))]) (st2 := [az_i (az_b (0 ≤ z ∧ z ≤ ((((zn S 2 : Nat) : Int) - 1))))]) (s2 := s) rfl ?_
  refine az_retP rfl rfl ?_
  exact ⟨by rw [az_b_iff (p := 0 ≤ z ∧ z ≤ ((zn S 2 : Nat) : Int) - 1) (q := 0 ≤ z ∧ z < ((zn S 2 : Nat) : Int)) (by constructor <;> (intro q; omega))], rfl⟩
set_option maxRecDepth 100000 in
set_option maxHeartbeats 800000 in
theorem zs_X10_trollAt_L2 {d : Nat} {s : az_S} (hd : 1 ≤ d) {S : zR} {h : Nat} (hS : s 35 = S) (hI : zInv S h) (hh : h ≤ 10000) {b : Nat} (hb : b < 10) : ∀ (m : Nat) (k : Nat), m = zn S 1 - k → (k ≤ zn S 1) → (∀ i, i < k → ¬ zT S i 0 = ((b : Nat) : Int)) → az_R d am_m_X10_trollAt 2 [some (az_r 34), some (az_i (((b : Nat) : Int))), some (az_i (((k : Nat) : Int)))] [] (s) (az_ret (some (az_i (zat S b))) (s)) := by
  intro m
  induction m using Nat.strongRecOn with
  | _ m ih =>
    intro k hm g0 g1
    have hz := zI_h hI hh
    have hs0 : s 35 0 = ((zn S 0 : Nat) : Int) := by rw [hS, hz.2.1.1]
    have hs1 : s 35 1 = ((zn S 1 : Nat) : Int) := by rw [hS, hz.2.1.2.1]
    have hs2 : s 35 2 = ((zn S 2 : Nat) : Int) := by rw [hS, hz.2.1.2.2]
    have hs3 : s 35 3 = S 3 := by rw [hS]
    have hs5 : s 35 5 = S 5 := by rw [hS]
    refine az_to 4 (pc2 := 8) (lv2 := [some (az_r 34), some (az_i (((b : Nat) : Int))), some (az_i (((k : Nat) : Int)))]) (st2 := [az_i (1), az_r 35, az_i (((k : Nat) : Int))]) (s2 := s) rfl ?_
    refine az_ld_i 9 rfl rfl (by constructor <;> omega) ⟨by decide, rfl⟩ ?_
    refine az_to 0 (pc2 := 9) (lv2 := [some (az_r 34), some (az_i (((b : Nat) : Int))), some (az_i (((k : Nat) : Int)))]) (st2 := [az_i (s 35 1), az_i (((k : Nat) : Int))]) (s2 := s) rfl ?_
    refine az_to 0 (pc2 := 9) (lv2 := [some (az_r 34), some (az_i (((b : Nat) : Int))), some (az_i (((k : Nat) : Int)))]) (st2 := [az_i (((zn S 1 : Nat) : Int)), az_i (((k : Nat) : Int))]) (s2 := s) (by rw [show s 35 1 = ((zn S 1 : Nat) : Int) from hs1]; rfl) ?_
    refine az_if2 30 12 rfl (by decide) (by first | assumption | exact ⟨by omega, by omega⟩) (by first | assumption | exact ⟨by omega, by omega⟩) (fun h1 => ?_) (fun h1 => ?_)
    · have h1 : ((zn S 1 : Nat) : Int) ≤ ((k : Nat) : Int) := h1
      refine az_to 1 (pc2 := 31) (lv2 := [some (az_r 34), some (az_i (((b : Nat) : Int))), some (az_i (((k : Nat) : Int)))]) (st2 := [az_i (-1)]) (s2 := s) rfl ?_
      refine az_retI rfl rfl ?_
      have e : zat S b = -1 := by
        unfold zat
        refine zf_none _ _ (fun i hi => ?_)
        rw [decide_eq_false_iff_not]
        exact g1 i (by omega)
      exact ⟨by rw [e], rfl⟩
    · have h1 : ¬ (((zn S 1 : Nat) : Int) ≤ ((k : Nat) : Int)) := h1
      have hzt := zI_t hI hh (t := k) (by omega)
      refine az_to 3 (pc2 := 15) (lv2 := [some (az_r 34), some (az_i (((b : Nat) : Int))), some (az_i (((k : Nat) : Int)))]) (st2 := [az_i (0), az_i (((k : Nat) : Int)), az_r 34]) (s2 := s) rfl ?_
      refine az_clv (v := some (az_i (zT S k 0))) (t := s) (m2 := am_m_X10_ofTroll) (as := [az_r 34, az_i (((k : Nat) : Int)), az_i (0)]) (rest := []) 18 rfl rfl ⟨rfl, rfl⟩ (by omega) (zs_X10_ofTroll (s := s) (t := k) (k := 0) (by omega) hS (by omega) (by omega)) ?_
      refine az_to 0 (pc2 := 18) (lv2 := [some (az_r 34), some (az_i (((b : Nat) : Int))), some (az_i (((k : Nat) : Int)))]) (st2 := [az_i (zT S k 0)]) (s2 := s) rfl ?_
      refine az_to 1 (pc2 := 19) (lv2 := [some (az_r 34), some (az_i (((b : Nat) : Int))), some (az_i (((k : Nat) : Int)))]) (st2 := [az_i (((b : Nat) : Int)), az_i (zT S k 0)]) (s2 := s) rfl ?_
      refine az_if2 24 22 rfl (by decide) (by first | assumption | exact ⟨by omega, by omega⟩) (by first | assumption | exact ⟨by omega, by omega⟩) (fun h2 => ?_) (fun h2 => ?_)
      · have h2 : ¬ zT S k 0 = ((b : Nat) : Int) := h2
        refine az_to 2 (pc2 := 2) (lv2 := [some (az_r 34), some (az_i (((b : Nat) : Int))), some (az_i ((((k : Nat) : Int) + 1)))]) (st2 := []) (s2 := s) rfl ?_
        exact ih _ (by omega) (k + 1) rfl (by omega) (fun i hi => by
          by_cases q : i = k
          · rw [q]; assumption
          · exact g1 i (by omega))
      · have h2 : zT S k 0 = ((b : Nat) : Int) := Decidable.not_not.mp h2
        refine az_to 1 (pc2 := 23) (lv2 := [some (az_r 34), some (az_i (((b : Nat) : Int))), some (az_i (((k : Nat) : Int)))]) (st2 := [az_i (((k : Nat) : Int))]) (s2 := s) rfl ?_
        refine az_retI rfl rfl ?_
        have e : zat S b = ((k : Nat) : Int) := by
          unfold zat
          refine zf_first _ _ k (by omega) (by rw [decide_eq_true_eq]; assumption) (fun i hi => ?_)
          rw [decide_eq_false_iff_not]
          exact g1 i hi
        exact ⟨by rw [e], rfl⟩
set_option maxRecDepth 100000 in
set_option maxHeartbeats 800000 in
theorem zs_X10_trollAt {d : Nat} {s : az_S} (hd : 1 ≤ d) {S : zR} {h : Nat} (hS : s 35 = S) (hI : zInv S h) (hh : h ≤ 10000) {b : Nat} (hb : b < 10) : az_R d am_m_X10_trollAt 0 (az_ini (am_mL am_m_X10_trollAt) [az_r 34, az_i (((b : Nat) : Int))]) [] (s) (az_ret (some (az_i (zat S b))) (s)) := by
  have hz := zI_h hI hh
  have hs0 : s 35 0 = ((zn S 0 : Nat) : Int) := by rw [hS, hz.2.1.1]
  have hs1 : s 35 1 = ((zn S 1 : Nat) : Int) := by rw [hS, hz.2.1.2.1]
  have hs2 : s 35 2 = ((zn S 2 : Nat) : Int) := by rw [hS, hz.2.1.2.2]
  have hs3 : s 35 3 = S 3 := by rw [hS]
  have hs5 : s 35 5 = S 5 := by rw [hS]
  refine az_to 0 (pc2 := 0) (lv2 := [some (az_r 34), some (az_i (((b : Nat) : Int))), none]) (st2 := []) (s2 := s) rfl ?_
  refine az_to 2 (pc2 := 2) (lv2 := [some (az_r 34), some (az_i (((b : Nat) : Int))), some (az_i (0))]) (st2 := []) (s2 := s) rfl ?_
  exact zs_X10_trollAt_L2 (by omega) hS hI hh hb _ 0 rfl (by omega) (fun i hi => absurd hi (by omega))
set_option maxRecDepth 100000 in
set_option maxHeartbeats 800000 in
theorem zs_X10_holds {d : Nat} {s : az_S} (hd : 1 ≤ d) {S : zR} {h : Nat} (hS : s 35 = S) (hI : zInv S h) (hh : h ≤ 10000) {t : Nat} (ht : t < 6) : az_R d am_m_X10_holds 0 (az_ini (am_mL am_m_X10_holds) [az_r 34, az_i (((t : Nat) : Int))]) [] (s) (az_ret (some (az_i (az_b (S 3 < zT S t 3)))) (s)) := by
  have hz := zI_h hI hh
  have hs0 : s 35 0 = ((zn S 0 : Nat) : Int) := by rw [hS, hz.2.1.1]
  have hs1 : s 35 1 = ((zn S 1 : Nat) : Int) := by rw [hS, hz.2.1.2.1]
  have hs2 : s 35 2 = ((zn S 2 : Nat) : Int) := by rw [hS, hz.2.1.2.2]
  have hs3 : s 35 3 = S 3 := by rw [hS]
  have hs5 : s 35 5 = S 5 := by rw [hS]
  have hzt := zI_t hI hh ht
  refine az_to 0 (pc2 := 0) (lv2 := [some (az_r 34), some (az_i (((t : Nat) : Int)))]) (st2 := []) (s2 := s) rfl ?_
  refine az_to 3 (pc2 := 5) (lv2 := [some (az_r 34), some (az_i (((t : Nat) : Int)))]) (st2 := [az_i (3), az_r 35]) (s2 := s) rfl ?_
  refine az_ld_i 6 rfl rfl (by constructor <;> omega) ⟨by decide, rfl⟩ ?_
  refine az_to 0 (pc2 := 6) (lv2 := [some (az_r 34), some (az_i (((t : Nat) : Int)))]) (st2 := [az_i (s 35 3)]) (s2 := s) rfl ?_
  refine az_to 0 (pc2 := 6) (lv2 := [some (az_r 34), some (az_i (((t : Nat) : Int)))]) (st2 := [az_i (S 3)]) (s2 := s) (by rw [show s 35 3 = S 3 from hs3]; rfl) ?_
  refine az_to 3 (pc2 := 9) (lv2 := [some (az_r 34), some (az_i (((t : Nat) : Int)))]) (st2 := [az_i (3), az_i (((t : Nat) : Int)), az_r 34, az_i (S 3)]) (s2 := s) rfl ?_
  refine az_clv (v := some (az_i (zT S t 3))) (t := s) (m2 := am_m_X10_ofTroll) (as := [az_r 34, az_i (((t : Nat) : Int)), az_i (3)]) (rest := [az_i (S 3)]) 12 rfl rfl ⟨rfl, rfl⟩ (by omega) (zs_X10_ofTroll (s := s) (t := t) (k := 3) (by omega) hS (by omega) (by omega)) ?_
  refine az_to 0 (pc2 := 12) (lv2 := [some (az_r 34), some (az_i (((t : Nat) : Int)))]) (st2 := [az_i (zT S t 3), az_i (S 3)]) (s2 := s) rfl ?_
  refine az_if2 19 15 rfl (by decide) (by first | assumption | exact ⟨by omega, by omega⟩) (by first | assumption | exact ⟨by omega, by omega⟩) (fun h1 => ?_) (fun h1 => ?_)
  · have h1 : zT S t 3 ≤ S 3 := h1
    refine az_to 1 (pc2 := 20) (lv2 := [some (az_r 34), some (az_i (((t : Nat) : Int)))]) (st2 := [az_i (0)]) (s2 := s) rfl ?_
    refine az_retB rfl rfl (by first | decide | omega | exact Or.inl rfl | exact Or.inr rfl) ?_
    exact ⟨by rw [az_b0 (by omega)], rfl⟩
  · have h1 : ¬ (zT S t 3 ≤ S 3) := h1
    refine az_to 2 (pc2 := 20) (lv2 := [some (az_r 34), some (az_i (((t : Nat) : Int)))]) (st2 := [az_i (1)]) (s2 := s) rfl ?_
    refine az_retB rfl rfl (by first | decide | omega | exact Or.inl rfl | exact Or.inr rfl) ?_
    exact ⟨by rw [az_b1 (by omega)], rfl⟩
set_option maxRecDepth 100000 in
set_option maxHeartbeats 800000 in
theorem zs_X10_isInFog {d : Nat} {s : az_S} (hd : 1 ≤ d) {S : zR} {h : Nat} (hS : s 35 = S) (hI : zInv S h) (hh : h ≤ 10000) {b : Nat} (hb : b < zn S 0) : az_R d am_m_X10_isInFog 0 (az_ini (am_mL am_m_X10_isInFog) [az_r 34, az_i (((b : Nat) : Int))]) [] (s) (az_ret (some (az_i (az_b (S 3 < zB S b 4)))) (s)) := by
  have hz := zI_h hI hh
  have hs0 : s 35 0 = ((zn S 0 : Nat) : Int) := by rw [hS, hz.2.1.1]
  have hs1 : s 35 1 = ((zn S 1 : Nat) : Int) := by rw [hS, hz.2.1.2.1]
  have hs2 : s 35 2 = ((zn S 2 : Nat) : Int) := by rw [hS, hz.2.1.2.2]
  have hs3 : s 35 3 = S 3 := by rw [hS]
  have hs5 : s 35 5 = S 5 := by rw [hS]
  have hzb := zI_b hI hh hb
  refine az_to 0 (pc2 := 0) (lv2 := [some (az_r 34), some (az_i (((b : Nat) : Int)))]) (st2 := []) (s2 := s) rfl ?_
  refine az_to 3 (pc2 := 5) (lv2 := [some (az_r 34), some (az_i (((b : Nat) : Int)))]) (st2 := [az_i (3), az_r 35]) (s2 := s) rfl ?_
  refine az_ld_i 6 rfl rfl (by constructor <;> omega) ⟨by decide, rfl⟩ ?_
  refine az_to 0 (pc2 := 6) (lv2 := [some (az_r 34), some (az_i (((b : Nat) : Int)))]) (st2 := [az_i (s 35 3)]) (s2 := s) rfl ?_
  refine az_to 0 (pc2 := 6) (lv2 := [some (az_r 34), some (az_i (((b : Nat) : Int)))]) (st2 := [az_i (S 3)]) (s2 := s) (by rw [show s 35 3 = S 3 from hs3]; rfl) ?_
  refine az_to 3 (pc2 := 9) (lv2 := [some (az_r 34), some (az_i (((b : Nat) : Int)))]) (st2 := [az_i (4), az_i (((b : Nat) : Int)), az_r 34, az_i (S 3)]) (s2 := s) rfl ?_
  refine az_clv (v := some (az_i (zB S b 4))) (t := s) (m2 := am_m_X10_of) (as := [az_r 34, az_i (((b : Nat) : Int)), az_i (4)]) (rest := [az_i (S 3)]) 12 rfl rfl ⟨rfl, rfl⟩ (by omega) (zs_X10_of (s := s) (b := b) (k := 4) (by omega) hS (by omega) (by omega)) ?_
  refine az_to 0 (pc2 := 12) (lv2 := [some (az_r 34), some (az_i (((b : Nat) : Int)))]) (st2 := [az_i (zB S b 4), az_i (S 3)]) (s2 := s) rfl ?_
  refine az_if2 19 15 rfl (by decide) (by first | assumption | exact ⟨by omega, by omega⟩) (by first | assumption | exact ⟨by omega, by omega⟩) (fun h1 => ?_) (fun h1 => ?_)
  · have h1 : zB S b 4 ≤ S 3 := h1
    refine az_to 1 (pc2 := 20) (lv2 := [some (az_r 34), some (az_i (((b : Nat) : Int)))]) (st2 := [az_i (0)]) (s2 := s) rfl ?_
    refine az_retB rfl rfl (by first | decide | omega | exact Or.inl rfl | exact Or.inr rfl) ?_
    exact ⟨by rw [az_b0 (by omega)], rfl⟩
  · have h1 : ¬ (zB S b 4 ≤ S 3) := h1
    refine az_to 2 (pc2 := 20) (lv2 := [some (az_r 34), some (az_i (((b : Nat) : Int)))]) (st2 := [az_i (1)]) (s2 := s) rfl ?_
    refine az_retB rfl rfl (by first | decide | omega | exact Or.inl rfl | exact Or.inr rfl) ?_
    exact ⟨by rw [az_b1 (by omega)], rfl⟩
set_option maxRecDepth 100000 in
set_option maxHeartbeats 800000 in
theorem zs_X10_strikers_L4 {d : Nat} {s : az_S} (hd : 1 ≤ d) {S : zR} {h : Nat} (hS : s 35 = S) (hI : zInv S h) (hh : h ≤ 10000) : ∀ (m : Nat) (k : Nat), m = zn S 2 - k → (k ≤ zn S 2) → az_R d am_m_X10_strikers 4 [some (az_r 34), some (az_i (zs k (fun g => zG S g 2))), some (az_i (((k : Nat) : Int)))] [] (s) (az_ret (some (az_i (zstr S))) (s)) := by
  intro m
  induction m using Nat.strongRecOn with
  | _ m ih =>
    intro k hm g0
    have hz := zI_h hI hh
    have hs0 : s 35 0 = ((zn S 0 : Nat) : Int) := by rw [hS, hz.2.1.1]
    have hs1 : s 35 1 = ((zn S 1 : Nat) : Int) := by rw [hS, hz.2.1.2.1]
    have hs2 : s 35 2 = ((zn S 2 : Nat) : Int) := by rw [hS, hz.2.1.2.2]
    have hs3 : s 35 3 = S 3 := by rw [hS]
    have hs5 : s 35 5 = S 5 := by rw [hS]
    refine az_to 4 (pc2 := 10) (lv2 := [some (az_r 34), some (az_i (zs k (fun g => zG S g 2))), some (az_i (((k : Nat) : Int)))]) (st2 := [az_i (2), az_r 35, az_i (((k : Nat) : Int))]) (s2 := s) rfl ?_
    refine az_ld_i 11 rfl rfl (by constructor <;> omega) ⟨by decide, rfl⟩ ?_
    refine az_to 0 (pc2 := 11) (lv2 := [some (az_r 34), some (az_i (zs k (fun g => zG S g 2))), some (az_i (((k : Nat) : Int)))]) (st2 := [az_i (s 35 2), az_i (((k : Nat) : Int))]) (s2 := s) rfl ?_
    refine az_to 0 (pc2 := 11) (lv2 := [some (az_r 34), some (az_i (zs k (fun g => zG S g 2))), some (az_i (((k : Nat) : Int)))]) (st2 := [az_i (((zn S 2 : Nat) : Int)), az_i (((k : Nat) : Int))]) (s2 := s) (by rw [show s 35 2 = ((zn S 2 : Nat) : Int) from hs2]; rfl) ?_
    refine az_if2 29 14 rfl (by decide) (by first | assumption | exact ⟨by omega, by omega⟩) (by first | assumption | exact ⟨by omega, by omega⟩) (fun h1 => ?_) (fun h1 => ?_)
    · have h1 : ((zn S 2 : Nat) : Int) ≤ ((k : Nat) : Int) := h1
      refine az_to 1 (pc2 := 30) (lv2 := [some (az_r 34), some (az_i (zs k (fun g => zG S g 2))), some (az_i (((k : Nat) : Int)))]) (st2 := [az_i (zs k (fun g => zG S g 2))]) (s2 := s) rfl ?_
      refine az_retI rfl rfl ?_
      obtain rfl : k = zn S 2 := by omega
      exact ⟨rfl, rfl⟩
    · have h1 : ¬ (((zn S 2 : Nat) : Int) ≤ ((k : Nat) : Int)) := h1
      refine az_to 4 (pc2 := 18) (lv2 := [some (az_r 34), some (az_i (zs k (fun g => zG S g 2))), some (az_i (((k : Nat) : Int)))]) (st2 := [az_i (2), az_i (((k : Nat) : Int)), az_r 34, az_i (zs k (fun g => zG S g 2))]) (s2 := s) rfl ?_
      refine az_clv (v := some (az_i (zG S k 2))) (t := s) (m2 := am_m_X10_ofGoat) (as := [az_r 34, az_i (((k : Nat) : Int)), az_i (2)]) (rest := [az_i (zs k (fun g => zG S g 2))]) 21 rfl rfl ⟨rfl, rfl⟩ (by omega) (zs_X10_ofGoat (s := s) (g := k) (k := 2) (by omega) hS (by omega) (by omega)) ?_
      refine az_to 0 (pc2 := 21) (lv2 := [some (az_r 34), some (az_i (zs k (fun g => zG S g 2))), some (az_i (((k : Nat) : Int)))]) (st2 := [az_i (zG S k 2), az_i (zs k (fun g => zG S g 2))]) (s2 := s) rfl ?_
      refine az_to 4 (pc2 := 4) (lv2 := [some (az_r 34), some (az_i ((zs k (fun g => zG S g 2) + zG S k 2))), some (az_i ((((k : Nat) : Int) + 1)))]) (st2 := []) (s2 := s) rfl ?_
      have e9 : (zs k (fun g => zG S g 2) + zG S k 2) = zs (k + 1) (fun g => zG S g 2) := by
        show _ = zs k _ + _
        rfl
      rw [e9]
      exact ih _ (by omega) (k + 1) rfl (by omega)
set_option maxRecDepth 100000 in
set_option maxHeartbeats 800000 in
theorem zs_X10_strikers {d : Nat} {s : az_S} (hd : 1 ≤ d) {S : zR} {h : Nat} (hS : s 35 = S) (hI : zInv S h) (hh : h ≤ 10000) : az_R d am_m_X10_strikers 0 (az_ini (am_mL am_m_X10_strikers) [az_r 34]) [] (s) (az_ret (some (az_i (zstr S))) (s)) := by
  have hz := zI_h hI hh
  have hs0 : s 35 0 = ((zn S 0 : Nat) : Int) := by rw [hS, hz.2.1.1]
  have hs1 : s 35 1 = ((zn S 1 : Nat) : Int) := by rw [hS, hz.2.1.2.1]
  have hs2 : s 35 2 = ((zn S 2 : Nat) : Int) := by rw [hS, hz.2.1.2.2]
  have hs3 : s 35 3 = S 3 := by rw [hS]
  have hs5 : s 35 5 = S 5 := by rw [hS]
  refine az_to 0 (pc2 := 0) (lv2 := [some (az_r 34), none, none]) (st2 := []) (s2 := s) rfl ?_
  refine az_to 4 (pc2 := 4) (lv2 := [some (az_r 34), some (az_i (0)), some (az_i (0))]) (st2 := []) (s2 := s) rfl ?_
  exact zs_X10_strikers_L4 (by omega) hS hI hh _ 0 rfl (by omega)
set_option maxRecDepth 100000 in
set_option maxHeartbeats 800000 in
theorem zs_X10_isGeneralNow {d : Nat} {s : az_S} (hd : 2 ≤ d) {S : zR} {h : Nat} (hS : s 35 = S) (hI : zInv S h) (hh : h ≤ 10000) : az_R d am_m_X10_isGeneralNow 0 (az_ini (am_mL am_m_X10_isGeneralNow) [az_r 34]) [] (s) (az_ret (some (az_i (az_b (zgen S)))) (s)) := by
  have hz := zI_h hI hh
  have hs0 : s 35 0 = ((zn S 0 : Nat) : Int) := by rw [hS, hz.2.1.1]
  have hs1 : s 35 1 = ((zn S 1 : Nat) : Int) := by rw [hS, hz.2.1.2.1]
  have hs2 : s 35 2 = ((zn S 2 : Nat) : Int) := by rw [hS, hz.2.1.2.2]
  have hs3 : s 35 3 = S 3 := by rw [hS]
  have hs5 : s 35 5 = S 5 := by rw [hS]
  have hzs := zstr_r hI hh
  refine az_to 0 (pc2 := 0) (lv2 := [some (az_r 34)]) (st2 := []) (s2 := s) rfl ?_
  refine az_to 2 (pc2 := 2) (lv2 := [some (az_r 34)]) (st2 := [az_r 34, az_i (2)]) (s2 := s) rfl ?_
  refine az_clv (v := some (az_i (zstr S))) (t := s) (m2 := am_m_X10_strikers) (as := [az_r 34]) (rest := [az_i (2)]) 5 rfl rfl ⟨rfl, rfl⟩ (by omega) (zs_X10_strikers (s := s)  (by omega) hS hI hh) ?_
  refine az_to 0 (pc2 := 5) (lv2 := [some (az_r 34)]) (st2 := [az_i (zstr S), az_i (2)]) (s2 := s) rfl ?_
  refine az_to 4 (pc2 := 11) (lv2 := [some (az_r 34)]) (st2 := [az_i (2), az_r 35, az_i ((2 * zstr S))]) (s2 := s) rfl ?_
  refine az_ld_i 12 rfl rfl (by constructor <;> omega) ⟨by decide, rfl⟩ ?_
  refine az_to 0 (pc2 := 12) (lv2 := [some (az_r 34)]) (st2 := [az_i (s 35 2), az_i ((2 * zstr S))]) (s2 := s) rfl ?_
  refine az_to 0 (pc2 := 12) (lv2 := [some (az_r 34)]) (st2 := [az_i (((zn S 2 : Nat) : Int)), az_i ((2 * zstr S))]) (s2 := s) (by rw [show s 35 2 = ((zn S 2 : Nat) : Int) from hs2]; rfl) ?_
  refine az_if2 19 15 rfl (by decide) (by first | assumption | exact ⟨by omega, by omega⟩) (by first | assumption | exact ⟨by omega, by omega⟩) (fun h1 => ?_) (fun h1 => ?_)
  · have h1 : (2 * zstr S) ≤ ((zn S 2 : Nat) : Int) := h1
    refine az_to 1 (pc2 := 20) (lv2 := [some (az_r 34)]) (st2 := [az_i (0)]) (s2 := s) rfl ?_
    refine az_retB rfl rfl (by first | decide | omega | exact Or.inl rfl | exact Or.inr rfl) ?_
    exact ⟨by rw [az_b0 (by unfold zgen; omega)], rfl⟩
  · have h1 : ¬ ((2 * zstr S) ≤ ((zn S 2 : Nat) : Int)) := h1
    refine az_to 2 (pc2 := 20) (lv2 := [some (az_r 34)]) (st2 := [az_i (1)]) (s2 := s) rfl ?_
    refine az_retB rfl rfl (by first | decide | omega | exact Or.inl rfl | exact Or.inr rfl) ?_
    exact ⟨by rw [az_b1 (by unfold zgen; omega)], rfl⟩
set_option maxRecDepth 100000 in
set_option maxHeartbeats 800000 in
theorem zs_X10_dueAt {d : Nat} {s : az_S} (hd : 3 ≤ d) {S : zR} {h : Nat} (hS : s 35 = S) (hI : zInv S h) (hh : h ≤ 10000) {b : Nat} (hb : b < zn S 0) : az_R d am_m_X10_dueAt 0 (az_ini (am_mL am_m_X10_dueAt) [az_r 34, az_i (((b : Nat) : Int))]) [] (s) (az_ret (some (az_i (zdue S b))) (s)) := by
  have hz := zI_h hI hh
  have hs0 : s 35 0 = ((zn S 0 : Nat) : Int) := by rw [hS, hz.2.1.1]
  have hs1 : s 35 1 = ((zn S 1 : Nat) : Int) := by rw [hS, hz.2.1.2.1]
  have hs2 : s 35 2 = ((zn S 2 : Nat) : Int) := by rw [hS, hz.2.1.2.2]
  have hs3 : s 35 3 = S 3 := by rw [hS]
  have hs5 : s 35 5 = S 5 := by rw [hS]
  have hzb := zI_b hI hh hb
  refine az_to 0 (pc2 := 0) (lv2 := [some (az_r 34), some (az_i (((b : Nat) : Int)))]) (st2 := []) (s2 := s) rfl ?_
  refine az_to 2 (pc2 := 2) (lv2 := [some (az_r 34), some (az_i (((b : Nat) : Int)))]) (st2 := [az_i (((b : Nat) : Int)), az_r 34]) (s2 := s) rfl ?_
  refine az_clv (v := some (az_i (zat S b))) (t := s) (m2 := am_m_X10_trollAt) (as := [az_r 34, az_i (((b : Nat) : Int))]) (rest := []) 5 rfl rfl ⟨rfl, rfl⟩ (by omega) (zs_X10_trollAt (s := s) (b := b) (by omega) hS hI hh (by omega)) ?_
  refine az_to 0 (pc2 := 5) (lv2 := [some (az_r 34), some (az_i (((b : Nat) : Int)))]) (st2 := [az_i (zat S b)]) (s2 := s) rfl ?_
  refine az_ifc 24 8 rfl (by decide) (by first | assumption | exact ⟨by omega, by omega⟩) (fun h1 => ?_) (fun h1 => ?_)
  · have h1 : zat S b < 0 := h1
    refine az_to 1 (pc2 := 25) (lv2 := [some (az_r 34), some (az_i (((b : Nat) : Int)))]) (st2 := [az_i (0)]) (s2 := s) rfl ?_
    refine az_retI rfl rfl ?_
    exact ⟨by unfold zdue; split <;> first | rfl | (rename_i q; exact absurd ⟨by omega, by assumption⟩ q) | (rename_i q; exact absurd q.1 (by omega)) | (rename_i q; exact absurd (by assumption) q.2), rfl⟩
  · have h1 : ¬ (zat S b < 0) := h1
    refine az_to 1 (pc2 := 9) (lv2 := [some (az_r 34), some (az_i (((b : Nat) : Int)))]) (st2 := [az_r 34]) (s2 := s) rfl ?_
    refine az_clv (v := some (az_i (az_b (zgen S)))) (t := s) (m2 := am_m_X10_isGeneralNow) (as := [az_r 34]) (rest := []) 12 rfl rfl ⟨rfl, rfl⟩ (by omega) (zs_X10_isGeneralNow (s := s)  (by omega) hS hI hh) ?_
    refine az_to 0 (pc2 := 12) (lv2 := [some (az_r 34), some (az_i (((b : Nat) : Int)))]) (st2 := [az_i (az_b (zgen S))]) (s2 := s) rfl ?_
    refine az_ifbn 24 15 rfl (by decide) (fun h2 => ?_) (fun h2 => ?_)
    · have h2 : zgen S := h2
      refine az_to 1 (pc2 := 25) (lv2 := [some (az_r 34), some (az_i (((b : Nat) : Int)))]) (st2 := [az_i (0)]) (s2 := s) rfl ?_
      refine az_retI rfl rfl ?_
      exact ⟨by unfold zdue; split <;> first | rfl | (rename_i q; exact absurd ⟨by omega, by assumption⟩ q) | (rename_i q; exact absurd q.1 (by omega)) | (rename_i q; exact absurd (by assumption) q.2), rfl⟩
    · have h2 : ¬ (zgen S) := h2
      refine az_to 3 (pc2 := 18) (lv2 := [some (az_r 34), some (az_i (((b : Nat) : Int)))]) (st2 := [az_i (3), az_i (((b : Nat) : Int)), az_r 34]) (s2 := s) rfl ?_
      refine az_clv (v := some (az_i (zB S b 3))) (t := s) (m2 := am_m_X10_of) (as := [az_r 34, az_i (((b : Nat) : Int)), az_i (3)]) (rest := []) 21 rfl rfl ⟨rfl, rfl⟩ (by omega) (zs_X10_of (s := s) (b := b) (k := 3) (by omega) hS (by omega) (by omega)) ?_
      refine az_to 0 (pc2 := 21) (lv2 := [some (az_r 34), some (az_i (((b : Nat) : Int)))]) (st2 := [az_i (zB S b 3)]) (s2 := s) rfl ?_
      refine az_to 1 (pc2 := 25) (lv2 := [some (az_r 34), some (az_i (((b : Nat) : Int)))]) (st2 := [az_i (zB S b 3)]) (s2 := s) rfl ?_
      refine az_retI rfl rfl ?_
      exact ⟨by unfold zdue; split <;> first | rfl | (rename_i q; exact absurd ⟨by omega, by assumption⟩ q) | (rename_i q; exact absurd q.1 (by omega)) | (rename_i q; exact absurd (by assumption) q.2), rfl⟩
set_option maxRecDepth 100000 in
set_option maxHeartbeats 800000 in
theorem zs_X10_takesAt {d : Nat} {s : az_S} (hd : 2 ≤ d) {S : zR} {h : Nat} (hS : s 35 = S) (hI : zInv S h) (hh : h ≤ 10000) {b : Nat} (hb : b < zn S 0) : az_R d am_m_X10_takesAt 0 (az_ini (am_mL am_m_X10_takesAt) [az_r 34, az_i (((b : Nat) : Int))]) [] (s) (az_ret (some (az_i (ztk S b))) (s)) := by
  have hz := zI_h hI hh
  have hs0 : s 35 0 = ((zn S 0 : Nat) : Int) := by rw [hS, hz.2.1.1]
  have hs1 : s 35 1 = ((zn S 1 : Nat) : Int) := by rw [hS, hz.2.1.2.1]
  have hs2 : s 35 2 = ((zn S 2 : Nat) : Int) := by rw [hS, hz.2.1.2.2]
  have hs3 : s 35 3 = S 3 := by rw [hS]
  have hs5 : s 35 5 = S 5 := by rw [hS]
  have hzb := zI_b hI hh hb
  refine az_to 0 (pc2 := 0) (lv2 := [some (az_r 34), some (az_i (((b : Nat) : Int))), none, none]) (st2 := []) (s2 := s) rfl ?_
  refine az_to 2 (pc2 := 2) (lv2 := [some (az_r 34), some (az_i (((b : Nat) : Int))), none, none]) (st2 := [az_i (((b : Nat) : Int)), az_r 34]) (s2 := s) rfl ?_
  refine az_clv (v := some (az_i (zat S b))) (t := s) (m2 := am_m_X10_trollAt) (as := [az_r 34, az_i (((b : Nat) : Int))]) (rest := []) 5 rfl rfl ⟨rfl, rfl⟩ (by omega) (zs_X10_trollAt (s := s) (b := b) (by omega) hS hI hh (by omega)) ?_
  refine az_to 0 (pc2 := 5) (lv2 := [some (az_r 34), some (az_i (((b : Nat) : Int))), none, none]) (st2 := [az_i (zat S b)]) (s2 := s) rfl ?_
  refine az_to 3 (pc2 := 8) (lv2 := [some (az_r 34), some (az_i (((b : Nat) : Int))), some (az_i (zat S b)), none]) (st2 := [az_i (((b : Nat) : Int)), az_r 34]) (s2 := s) rfl ?_
  refine az_clv (v := some (az_i (az_b (S 3 < zB S b 4)))) (t := s) (m2 := am_m_X10_isInFog) (as := [az_r 34, az_i (((b : Nat) : Int))]) (rest := []) 11 rfl rfl ⟨rfl, rfl⟩ (by omega) (zs_X10_isInFog (s := s) (b := b) (by omega) hS hI hh (by omega)) ?_
  refine az_to 0 (pc2 := 11) (lv2 := [some (az_r 34), some (az_i (((b : Nat) : Int))), some (az_i (zat S b)), none]) (st2 := [az_i (az_b (S 3 < zB S b 4))]) (s2 := s) rfl ?_
  refine az_ifbe 25 14 rfl (by decide) (fun h1 => ?_) (fun h1 => ?_)
  · have h1 : ¬ (S 3 < zB S b 4) := h1
    refine az_to 3 (pc2 := 28) (lv2 := [some (az_r 34), some (az_i (((b : Nat) : Int))), some (az_i (zat S b)), none]) (st2 := [az_i (2), az_i (((b : Nat) : Int)), az_r 34]) (s2 := s) rfl ?_
    refine az_clv (v := some (az_i (zB S b 2))) (t := s) (m2 := am_m_X10_of) (as := [az_r 34, az_i (((b : Nat) : Int)), az_i (2)]) (rest := []) 31 rfl rfl ⟨rfl, rfl⟩ (by omega) (zs_X10_of (s := s) (b := b) (k := 2) (by omega) hS (by omega) (by omega)) ?_
    refine az_to 0 (pc2 := 31) (lv2 := [some (az_r 34), some (az_i (((b : Nat) : Int))), some (az_i (zat S b)), none]) (st2 := [az_i (zB S b 2)]) (s2 := s) rfl ?_
    refine az_to 2 (pc2 := 33) (lv2 := [some (az_r 34), some (az_i (((b : Nat) : Int))), some (az_i (zat S b)), some (az_i (zB S b 2))]) (st2 := [az_i (zat S b)]) (s2 := s) rfl ?_
    refine az_ifc 55 36 rfl (by decide) (by first | assumption | exact ⟨by omega, by omega⟩) (fun h2 => ?_) (fun h2 => ?_)
    · have h2 : zat S b < 0 := h2
      refine az_to 1 (pc2 := 56) (lv2 := [some (az_r 34), some (az_i (((b : Nat) : Int))), some (az_i (zat S b)), some (az_i (zB S b 2))]) (st2 := [az_i (zB S b 2)]) (s2 := s) rfl ?_
      refine az_retI rfl rfl ?_
      exact ⟨by unfold ztk zdn; rw [if_neg (c := 0 ≤ zat S b) (by omega)]; simp only [*, if_true, if_false, Int.add_zero], rfl⟩
    · have h2 : ¬ (zat S b < 0) := h2
      obtain ⟨t, ht⟩ : ∃ n0 : Nat, zat S b = n0 := ⟨(zat S b).toNat, by omega⟩
      have hzt := zI_t hI hh (t := t) (by omega)
      refine az_to 0 (pc2 := 36) (lv2 := [some (az_r 34), some (az_i (((b : Nat) : Int))), some (az_i (((t : Nat) : Int))), some (az_i (zB S b 2))]) (st2 := []) (s2 := s) (by rw [ht]; rfl) ?_
      refine az_to 2 (pc2 := 38) (lv2 := [some (az_r 34), some (az_i (((b : Nat) : Int))), some (az_i (((t : Nat) : Int))), some (az_i (zB S b 2))]) (st2 := [az_i (((t : Nat) : Int)), az_r 34]) (s2 := s) rfl ?_
      refine az_clv (v := some (az_i (az_b (S 3 < zT S t 3)))) (t := s) (m2 := am_m_X10_holds) (as := [az_r 34, az_i (((t : Nat) : Int))]) (rest := []) 41 rfl rfl ⟨rfl, rfl⟩ (by omega) (zs_X10_holds (s := s) (t := t) (by omega) hS hI hh (by omega)) ?_
      refine az_to 0 (pc2 := 41) (lv2 := [some (az_r 34), some (az_i (((b : Nat) : Int))), some (az_i (((t : Nat) : Int))), some (az_i (zB S b 2))]) (st2 := [az_i (az_b (S 3 < zT S t 3))]) (s2 := s) rfl ?_
      refine az_ifbe 55 44 rfl (by decide) (fun h3 => ?_) (fun h3 => ?_)
      · have h3 : ¬ (S 3 < zT S t 3) := h3
        refine az_to 1 (pc2 := 56) (lv2 := [some (az_r 34), some (az_i (((b : Nat) : Int))), some (az_i (((t : Nat) : Int))), some (az_i (zB S b 2))]) (st2 := [az_i (zB S b 2)]) (s2 := s) rfl ?_
        refine az_retI rfl rfl ?_
        exact ⟨by unfold ztk zdn; rw [ht, Int.toNat_natCast, if_pos (c := 0 ≤ ((t : Nat) : Int)) (by omega)]; simp only [*, if_true, if_false, Int.add_zero], rfl⟩
      · have h3 : S 3 < zT S t 3 := h3
        refine az_to 4 (pc2 := 48) (lv2 := [some (az_r 34), some (az_i (((b : Nat) : Int))), some (az_i (((t : Nat) : Int))), some (az_i (zB S b 2))]) (st2 := [az_i (2), az_i (((t : Nat) : Int)), az_r 34, az_i (zB S b 2)]) (s2 := s) rfl ?_
        refine az_clv (v := some (az_i (zT S t 2))) (t := s) (m2 := am_m_X10_ofTroll) (as := [az_r 34, az_i (((t : Nat) : Int)), az_i (2)]) (rest := [az_i (zB S b 2)]) 51 rfl rfl ⟨rfl, rfl⟩ (by omega) (zs_X10_ofTroll (s := s) (t := t) (k := 2) (by omega) hS (by omega) (by omega)) ?_
        refine az_to 0 (pc2 := 51) (lv2 := [some (az_r 34), some (az_i (((b : Nat) : Int))), some (az_i (((t : Nat) : Int))), some (az_i (zB S b 2))]) (st2 := [az_i (zT S t 2), az_i (zB S b 2)]) (s2 := s) rfl ?_
        refine az_to 2 (pc2 := 56) (lv2 := [some (az_r 34), some (az_i (((b : Nat) : Int))), some (az_i (((t : Nat) : Int))), some (az_i (zB S b 2))]) (st2 := [az_i ((zB S b 2 + zT S t 2))]) (s2 := s) rfl ?_
        refine az_retI rfl rfl ?_
        exact ⟨by unfold ztk zdn; rw [ht, Int.toNat_natCast, if_pos (c := 0 ≤ ((t : Nat) : Int)) (by omega)]; simp only [*, if_true, if_false, Int.add_zero], rfl⟩
  · have h1 : S 3 < zB S b 4 := h1
    refine az_to 4 (pc2 := 18) (lv2 := [some (az_r 34), some (az_i (((b : Nat) : Int))), some (az_i (zat S b)), none]) (st2 := [az_i (2), az_i (((b : Nat) : Int)), az_r 34, az_i (2)]) (s2 := s) rfl ?_
    refine az_clv (v := some (az_i (zB S b 2))) (t := s) (m2 := am_m_X10_of) (as := [az_r 34, az_i (((b : Nat) : Int)), az_i (2)]) (rest := [az_i (2)]) 21 rfl rfl ⟨rfl, rfl⟩ (by omega) (zs_X10_of (s := s) (b := b) (k := 2) (by omega) hS (by omega) (by omega)) ?_
    refine az_to 0 (pc2 := 21) (lv2 := [some (az_r 34), some (az_i (((b : Nat) : Int))), some (az_i (zat S b)), none]) (st2 := [az_i (zB S b 2), az_i (2)]) (s2 := s) rfl ?_
    refine az_to 4 (pc2 := 33) (lv2 := [some (az_r 34), some (az_i (((b : Nat) : Int))), some (az_i (zat S b)), some (az_i ((2 * zB S b 2)))]) (st2 := [az_i (zat S b)]) (s2 := s) rfl ?_
    refine az_ifc 55 36 rfl (by decide) (by first | assumption | exact ⟨by omega, by omega⟩) (fun h4 => ?_) (fun h4 => ?_)
    · have h4 : zat S b < 0 := h4
      refine az_to 1 (pc2 := 56) (lv2 := [some (az_r 34), some (az_i (((b : Nat) : Int))), some (az_i (zat S b)), some (az_i ((2 * zB S b 2)))]) (st2 := [az_i ((2 * zB S b 2))]) (s2 := s) rfl ?_
      refine az_retI rfl rfl ?_
      exact ⟨by unfold ztk zdn; rw [if_neg (c := 0 ≤ zat S b) (by omega)]; simp only [*, if_true, if_false, Int.add_zero], rfl⟩
    · have h4 : ¬ (zat S b < 0) := h4
      obtain ⟨t, ht⟩ : ∃ n0 : Nat, zat S b = n0 := ⟨(zat S b).toNat, by omega⟩
      have hzt := zI_t hI hh (t := t) (by omega)
      refine az_to 0 (pc2 := 36) (lv2 := [some (az_r 34), some (az_i (((b : Nat) : Int))), some (az_i (((t : Nat) : Int))), some (az_i ((2 * zB S b 2)))]) (st2 := []) (s2 := s) (by rw [ht]; rfl) ?_
      refine az_to 2 (pc2 := 38) (lv2 := [some (az_r 34), some (az_i (((b : Nat) : Int))), some (az_i (((t : Nat) : Int))), some (az_i ((2 * zB S b 2)))]) (st2 := [az_i (((t : Nat) : Int)), az_r 34]) (s2 := s) rfl ?_
      refine az_clv (v := some (az_i (az_b (S 3 < zT S t 3)))) (t := s) (m2 := am_m_X10_holds) (as := [az_r 34, az_i (((t : Nat) : Int))]) (rest := []) 41 rfl rfl ⟨rfl, rfl⟩ (by omega) (zs_X10_holds (s := s) (t := t) (by omega) hS hI hh (by omega)) ?_
      refine az_to 0 (pc2 := 41) (lv2 := [some (az_r 34), some (az_i (((b : Nat) : Int))), some (az_i (((t : Nat) : Int))), some (az_i ((2 * zB S b 2)))]) (st2 := [az_i (az_b (S 3 < zT S t 3))]) (s2 := s) rfl ?_
      refine az_ifbe 55 44 rfl (by decide) (fun h5 => ?_) (fun h5 => ?_)
      · have h5 : ¬ (S 3 < zT S t 3) := h5
        refine az_to 1 (pc2 := 56) (lv2 := [some (az_r 34), some (az_i (((b : Nat) : Int))), some (az_i (((t : Nat) : Int))), some (az_i ((2 * zB S b 2)))]) (st2 := [az_i ((2 * zB S b 2))]) (s2 := s) rfl ?_
        refine az_retI rfl rfl ?_
        exact ⟨by unfold ztk zdn; rw [ht, Int.toNat_natCast, if_pos (c := 0 ≤ ((t : Nat) : Int)) (by omega)]; simp only [*, if_true, if_false, Int.add_zero], rfl⟩
      · have h5 : S 3 < zT S t 3 := h5
        refine az_to 4 (pc2 := 48) (lv2 := [some (az_r 34), some (az_i (((b : Nat) : Int))), some (az_i (((t : Nat) : Int))), some (az_i ((2 * zB S b 2)))]) (st2 := [az_i (2), az_i (((t : Nat) : Int)), az_r 34, az_i ((2 * zB S b 2))]) (s2 := s) rfl ?_
        refine az_clv (v := some (az_i (zT S t 2))) (t := s) (m2 := am_m_X10_ofTroll) (as := [az_r 34, az_i (((t : Nat) : Int)), az_i (2)]) (rest := [az_i ((2 * zB S b 2))]) 51 rfl rfl ⟨rfl, rfl⟩ (by omega) (zs_X10_ofTroll (s := s) (t := t) (k := 2) (by omega) hS (by omega) (by omega)) ?_
        refine az_to 0 (pc2 := 51) (lv2 := [some (az_r 34), some (az_i (((b : Nat) : Int))), some (az_i (((t : Nat) : Int))), some (az_i ((2 * zB S b 2)))]) (st2 := [az_i (zT S t 2), az_i ((2 * zB S b 2))]) (s2 := s) rfl ?_
        refine az_to 2 (pc2 := 56) (lv2 := [some (az_r 34), some (az_i (((b : Nat) : Int))), some (az_i (((t : Nat) : Int))), some (az_i ((2 * zB S b 2)))]) (st2 := [az_i (((2 * zB S b 2) + zT S t 2))]) (s2 := s) rfl ?_
        refine az_retI rfl rfl ?_
        exact ⟨by unfold ztk zdn; rw [ht, Int.toNat_natCast, if_pos (c := 0 ≤ ((t : Nat) : Int)) (by omega)]; simp only [*, if_true, if_false, Int.add_zero], rfl⟩
set_option maxRecDepth 100000 in
set_option maxHeartbeats 800000 in
theorem zs_X10_chest_L4 {d : Nat} {s : az_S} (hd : 1 ≤ d) {S : zR} (hS : s 35 = S) {b : Nat} (hb : b < 10) : ∀ (m : Nat) (k : Nat), m = 5 - k → (k ≤ 5) → az_R d am_m_X10_chest 4 [some (az_r 34), some (az_i (((b : Nat) : Int))), some (az_i (zs k (fun g => zB S b (7 + g)))), some (az_i (((k : Nat) : Int)))] [] (s) (az_ret (some (az_i (zs5 S b))) (s)) := by
  intro m
  induction m using Nat.strongRecOn with
  | _ m ih =>
    intro k hm g0
    skip
    refine az_to 2 (pc2 := 6) (lv2 := [some (az_r 34), some (az_i (((b : Nat) : Int))), some (az_i (zs k (fun g => zB S b (7 + g)))), some (az_i (((k : Nat) : Int)))]) (st2 := [az_i (5), az_i (((k : Nat) : Int))]) (s2 := s) rfl ?_
    refine az_if2 27 9 rfl (by decide) (by first | assumption | exact ⟨by omega, by omega⟩) ⟨by decide, by decide⟩ (fun h1 => ?_) (fun h1 => ?_)
    · have h1 : 5 ≤ ((k : Nat) : Int) := h1
      refine az_to 1 (pc2 := 28) (lv2 := [some (az_r 34), some (az_i (((b : Nat) : Int))), some (az_i (zs k (fun g => zB S b (7 + g)))), some (az_i (((k : Nat) : Int)))]) (st2 := [az_i (zs k (fun g => zB S b (7 + g)))]) (s2 := s) rfl ?_
      refine az_retI rfl rfl ?_
      obtain rfl : k = 5 := by omega
      exact ⟨rfl, rfl⟩
    · have h1 : ¬ (5 ≤ ((k : Nat) : Int)) := h1
      refine az_to 6 (pc2 := 16) (lv2 := [some (az_r 34), some (az_i (((b : Nat) : Int))), some (az_i (zs k (fun g => zB S b (7 + g)))), some (az_i (((k : Nat) : Int)))]) (st2 := [az_i ((7 + ((k : Nat) : Int))), az_i (((b : Nat) : Int)), az_r 34, az_i (zs k (fun g => zB S b (7 + g)))]) (s2 := s) rfl ?_
      refine az_clv (v := some (az_i (zB S b (7 + k)))) (t := s) (m2 := am_m_X10_of) (as := [az_r 34, az_i (((b : Nat) : Int)), az_i ((7 + ((k : Nat) : Int)))]) (rest := [az_i (zs k (fun g => zB S b (7 + g)))]) 19 rfl rfl ⟨rfl, rfl⟩ (by omega) (zs_X10_of (s := s) (b := b) (k := (7 + k)) (by omega) hS (by omega) (by omega)) ?_
      refine az_to 0 (pc2 := 19) (lv2 := [some (az_r 34), some (az_i (((b : Nat) : Int))), some (az_i (zs k (fun g => zB S b (7 + g)))), some (az_i (((k : Nat) : Int)))]) (st2 := [az_i (zB S b (7 + k)), az_i (zs k (fun g => zB S b (7 + g)))]) (s2 := s) rfl ?_
      refine az_to 4 (pc2 := 4) (lv2 := [some (az_r 34), some (az_i (((b : Nat) : Int))), some (az_i ((zs k (fun g => zB S b (7 + g)) + zB S b (7 + k)))), some (az_i ((((k : Nat) : Int) + 1)))]) (st2 := []) (s2 := s) rfl ?_
      have e9 : (zs k (fun g => zB S b (7 + g)) + zB S b (7 + k)) = zs (k + 1) (fun g => zB S b (7 + g)) := by
        show _ = zs k _ + _
        rfl
      rw [e9]
      exact ih _ (by omega) (k + 1) rfl (by omega)
set_option maxRecDepth 100000 in
set_option maxHeartbeats 800000 in
theorem zs_X10_chest {d : Nat} {s : az_S} (hd : 1 ≤ d) {S : zR} (hS : s 35 = S) {b : Nat} (hb : b < 10) : az_R d am_m_X10_chest 0 (az_ini (am_mL am_m_X10_chest) [az_r 34, az_i (((b : Nat) : Int))]) [] (s) (az_ret (some (az_i (zs5 S b))) (s)) := by
  skip
  refine az_to 0 (pc2 := 0) (lv2 := [some (az_r 34), some (az_i (((b : Nat) : Int))), none, none]) (st2 := []) (s2 := s) rfl ?_
  refine az_to 4 (pc2 := 4) (lv2 := [some (az_r 34), some (az_i (((b : Nat) : Int))), some (az_i (0)), some (az_i (0))]) (st2 := []) (s2 := s) rfl ?_
  exact zs_X10_chest_L4 (by omega) hS hb _ 0 rfl (by omega)
set_option maxRecDepth 100000 in
set_option maxHeartbeats 800000 in
theorem zs_X10_disputes_L4 {d : Nat} {s : az_S} (hd : 1 ≤ d) {S : zR} {h : Nat} (hS : s 35 = S) (hI : zInv S h) (hh : h ≤ 10000) : ∀ (m : Nat) (k : Nat), m = zn S 0 - k → (k ≤ zn S 0) → az_R d am_m_X10_disputes 4 [some (az_r 34), some (az_i (zs k (fun b => az_b (0 ≤ zB S b 5)))), some (az_i (((k : Nat) : Int)))] [] (s) (az_ret (some (az_i (zcd S))) (s)) := by
  intro m
  induction m using Nat.strongRecOn with
  | _ m ih =>
    intro k hm g0
    have hz := zI_h hI hh
    have hs0 : s 35 0 = ((zn S 0 : Nat) : Int) := by rw [hS, hz.2.1.1]
    have hs1 : s 35 1 = ((zn S 1 : Nat) : Int) := by rw [hS, hz.2.1.2.1]
    have hs2 : s 35 2 = ((zn S 2 : Nat) : Int) := by rw [hS, hz.2.1.2.2]
    have hs3 : s 35 3 = S 3 := by rw [hS]
    have hs5 : s 35 5 = S 5 := by rw [hS]
    refine az_to 4 (pc2 := 10) (lv2 := [some (az_r 34), some (az_i (zs k (fun b => az_b (0 ≤ zB S b 5)))), some (az_i (((k : Nat) : Int)))]) (st2 := [az_i (0), az_r 35, az_i (((k : Nat) : Int))]) (s2 := s) rfl ?_
    refine az_ld_i 11 rfl rfl (by constructor <;> omega) ⟨by decide, rfl⟩ ?_
    refine az_to 0 (pc2 := 11) (lv2 := [some (az_r 34), some (az_i (zs k (fun b => az_b (0 ≤ zB S b 5)))), some (az_i (((k : Nat) : Int)))]) (st2 := [az_i (s 35 0), az_i (((k : Nat) : Int))]) (s2 := s) rfl ?_
    refine az_to 0 (pc2 := 11) (lv2 := [some (az_r 34), some (az_i (zs k (fun b => az_b (0 ≤ zB S b 5)))), some (az_i (((k : Nat) : Int)))]) (st2 := [az_i (((zn S 0 : Nat) : Int)), az_i (((k : Nat) : Int))]) (s2 := s) (by rw [show s 35 0 = ((zn S 0 : Nat) : Int) from hs0]; rfl) ?_
    refine az_if2 37 14 rfl (by decide) (by first | assumption | exact ⟨by omega, by omega⟩) (by first | assumption | exact ⟨by omega, by omega⟩) (fun h1 => ?_) (fun h1 => ?_)
    · have h1 : ((zn S 0 : Nat) : Int) ≤ ((k : Nat) : Int) := h1
      refine az_to 1 (pc2 := 38) (lv2 := [some (az_r 34), some (az_i (zs k (fun b => az_b (0 ≤ zB S b 5)))), some (az_i (((k : Nat) : Int)))]) (st2 := [az_i (zs k (fun b => az_b (0 ≤ zB S b 5)))]) (s2 := s) rfl ?_
      refine az_retI rfl rfl ?_
      obtain rfl : k = zn S 0 := by omega
      exact ⟨rfl, rfl⟩
    · have h1 : ¬ (((zn S 0 : Nat) : Int) ≤ ((k : Nat) : Int)) := h1
      have hzb := zI_b hI hh (b := k) (by omega)
      refine az_to 4 (pc2 := 18) (lv2 := [some (az_r 34), some (az_i (zs k (fun b => az_b (0 ≤ zB S b 5)))), some (az_i (((k : Nat) : Int)))]) (st2 := [az_i (5), az_i (((k : Nat) : Int)), az_r 34, az_i (zs k (fun b => az_b (0 ≤ zB S b 5)))]) (s2 := s) rfl ?_
      refine az_clv (v := some (az_i (zB S k 5))) (t := s) (m2 := am_m_X10_of) (as := [az_r 34, az_i (((k : Nat) : Int)), az_i (5)]) (rest := [az_i (zs k (fun b => az_b (0 ≤ zB S b 5)))]) 21 rfl rfl ⟨rfl, rfl⟩ (by omega) (zs_X10_of (s := s) (b := k) (k := 5) (by omega) hS (by omega) (by omega)) ?_
      refine az_to 0 (pc2 := 21) (lv2 := [some (az_r 34), some (az_i (zs k (fun b => az_b (0 ≤ zB S b 5)))), some (az_i (((k : Nat) : Int)))]) (st2 := [az_i (zB S k 5), az_i (zs k (fun b => az_b (0 ≤ zB S b 5)))]) (s2 := s) rfl ?_
      refine az_ifc 28 24 rfl (by decide) (by first | assumption | exact ⟨by omega, by omega⟩) (fun h2 => ?_) (fun h2 => ?_)
      · have h2 : zB S k 5 < 0 := h2
        refine az_to 5 (pc2 := 4) (lv2 := [some (az_r 34), some (az_i ((zs k (fun b => az_b (0 ≤ zB S b 5)) + 0))), some (az_i ((((k : Nat) : Int) + 1)))]) (st2 := []) (s2 := s) rfl ?_
        have e9 : (zs k (fun b => az_b (0 ≤ zB S b 5)) + 0) = zs (k + 1) (fun b => az_b (0 ≤ zB S b 5)) := by
          show _ = zs k _ + _
          dsimp only
          first | rfl | (rw [az_b1 (by assumption)]) | (rw [az_b0 (by assumption)]) | (rw [az_b1 (by omega)]) | (rw [az_b0 (by omega)])
        rw [e9]
        exact ih _ (by omega) (k + 1) rfl (by omega)
      · have h2 : ¬ (zB S k 5 < 0) := h2
        refine az_to 6 (pc2 := 4) (lv2 := [some (az_r 34), some (az_i ((zs k (fun b => az_b (0 ≤ zB S b 5)) + 1))), some (az_i ((((k : Nat) : Int) + 1)))]) (st2 := []) (s2 := s) rfl ?_
        have e9 : (zs k (fun b => az_b (0 ≤ zB S b 5)) + 1) = zs (k + 1) (fun b => az_b (0 ≤ zB S b 5)) := by
          show _ = zs k _ + _
          dsimp only
          first | rfl | (rw [az_b1 (by assumption)]) | (rw [az_b0 (by assumption)]) | (rw [az_b1 (by omega)]) | (rw [az_b0 (by omega)])
        rw [e9]
        exact ih _ (by omega) (k + 1) rfl (by omega)
set_option maxRecDepth 100000 in
set_option maxHeartbeats 800000 in
theorem zs_X10_disputes {d : Nat} {s : az_S} (hd : 1 ≤ d) {S : zR} {h : Nat} (hS : s 35 = S) (hI : zInv S h) (hh : h ≤ 10000) : az_R d am_m_X10_disputes 0 (az_ini (am_mL am_m_X10_disputes) [az_r 34]) [] (s) (az_ret (some (az_i (zcd S))) (s)) := by
  have hz := zI_h hI hh
  have hs0 : s 35 0 = ((zn S 0 : Nat) : Int) := by rw [hS, hz.2.1.1]
  have hs1 : s 35 1 = ((zn S 1 : Nat) : Int) := by rw [hS, hz.2.1.2.1]
  have hs2 : s 35 2 = ((zn S 2 : Nat) : Int) := by rw [hS, hz.2.1.2.2]
  have hs3 : s 35 3 = S 3 := by rw [hS]
  have hs5 : s 35 5 = S 5 := by rw [hS]
  refine az_to 0 (pc2 := 0) (lv2 := [some (az_r 34), none, none]) (st2 := []) (s2 := s) rfl ?_
  refine az_to 4 (pc2 := 4) (lv2 := [some (az_r 34), some (az_i (0)), some (az_i (0))]) (st2 := []) (s2 := s) rfl ?_
  exact zs_X10_disputes_L4 (by omega) hS hI hh _ 0 rfl (by omega)
set_option maxRecDepth 100000 in
set_option maxHeartbeats 800000 in
theorem zs_X10_holding_L4 {d : Nat} {s : az_S} (hd : 2 ≤ d) {S : zR} {h : Nat} (hS : s 35 = S) (hI : zInv S h) (hh : h ≤ 10000) : ∀ (m : Nat) (k : Nat), m = zn S 1 - k → (k ≤ zn S 1) → az_R d am_m_X10_holding 4 [some (az_r 34), some (az_i (zs k (fun t => az_b (S 3 < zT S t 3)))), some (az_i (((k : Nat) : Int)))] [] (s) (az_ret (some (az_i (zhl S))) (s)) := by
  intro m
  induction m using Nat.strongRecOn with
  | _ m ih =>
    intro k hm g0
    have hz := zI_h hI hh
    have hs0 : s 35 0 = ((zn S 0 : Nat) : Int) := by rw [hS, hz.2.1.1]
    have hs1 : s 35 1 = ((zn S 1 : Nat) : Int) := by rw [hS, hz.2.1.2.1]
    have hs2 : s 35 2 = ((zn S 2 : Nat) : Int) := by rw [hS, hz.2.1.2.2]
    have hs3 : s 35 3 = S 3 := by rw [hS]
    have hs5 : s 35 5 = S 5 := by rw [hS]
    refine az_to 4 (pc2 := 10) (lv2 := [some (az_r 34), some (az_i (zs k (fun t => az_b (S 3 < zT S t 3)))), some (az_i (((k : Nat) : Int)))]) (st2 := [az_i (1), az_r 35, az_i (((k : Nat) : Int))]) (s2 := s) rfl ?_
    refine az_ld_i 11 rfl rfl (by constructor <;> omega) ⟨by decide, rfl⟩ ?_
    refine az_to 0 (pc2 := 11) (lv2 := [some (az_r 34), some (az_i (zs k (fun t => az_b (S 3 < zT S t 3)))), some (az_i (((k : Nat) : Int)))]) (st2 := [az_i (s 35 1), az_i (((k : Nat) : Int))]) (s2 := s) rfl ?_
    refine az_to 0 (pc2 := 11) (lv2 := [some (az_r 34), some (az_i (zs k (fun t => az_b (S 3 < zT S t 3)))), some (az_i (((k : Nat) : Int)))]) (st2 := [az_i (((zn S 1 : Nat) : Int)), az_i (((k : Nat) : Int))]) (s2 := s) (by rw [show s 35 1 = ((zn S 1 : Nat) : Int) from hs1]; rfl) ?_
    refine az_if2 36 14 rfl (by decide) (by first | assumption | exact ⟨by omega, by omega⟩) (by first | assumption | exact ⟨by omega, by omega⟩) (fun h1 => ?_) (fun h1 => ?_)
    · have h1 : ((zn S 1 : Nat) : Int) ≤ ((k : Nat) : Int) := h1
      refine az_to 1 (pc2 := 37) (lv2 := [some (az_r 34), some (az_i (zs k (fun t => az_b (S 3 < zT S t 3)))), some (az_i (((k : Nat) : Int)))]) (st2 := [az_i (zs k (fun t => az_b (S 3 < zT S t 3)))]) (s2 := s) rfl ?_
      refine az_retI rfl rfl ?_
      obtain rfl : k = zn S 1 := by omega
      exact ⟨rfl, rfl⟩
    · have h1 : ¬ (((zn S 1 : Nat) : Int) ≤ ((k : Nat) : Int)) := h1
      refine az_to 3 (pc2 := 17) (lv2 := [some (az_r 34), some (az_i (zs k (fun t => az_b (S 3 < zT S t 3)))), some (az_i (((k : Nat) : Int)))]) (st2 := [az_i (((k : Nat) : Int)), az_r 34, az_i (zs k (fun t => az_b (S 3 < zT S t 3)))]) (s2 := s) rfl ?_
      refine az_clv (v := some (az_i (az_b (S 3 < zT S k 3)))) (t := s) (m2 := am_m_X10_holds) (as := [az_r 34, az_i (((k : Nat) : Int))]) (rest := [az_i (zs k (fun t => az_b (S 3 < zT S t 3)))]) 20 rfl rfl ⟨rfl, rfl⟩ (by omega) (zs_X10_holds (s := s) (t := k) (by omega) hS hI hh (by omega)) ?_
      refine az_to 0 (pc2 := 20) (lv2 := [some (az_r 34), some (az_i (zs k (fun t => az_b (S 3 < zT S t 3)))), some (az_i (((k : Nat) : Int)))]) (st2 := [az_i (az_b (S 3 < zT S k 3)), az_i (zs k (fun t => az_b (S 3 < zT S t 3)))]) (s2 := s) rfl ?_
      refine az_ifbe 27 23 rfl (by decide) (fun h2 => ?_) (fun h2 => ?_)
      · have h2 : ¬ (S 3 < zT S k 3) := h2
        refine az_to 5 (pc2 := 4) (lv2 := [some (az_r 34), some (az_i ((zs k (fun t => az_b (S 3 < zT S t 3)) + 0))), some (az_i ((((k : Nat) : Int) + 1)))]) (st2 := []) (s2 := s) rfl ?_
        have e9 : (zs k (fun t => az_b (S 3 < zT S t 3)) + 0) = zs (k + 1) (fun t => az_b (S 3 < zT S t 3)) := by
          show _ = zs k _ + _
          dsimp only
          first | rfl | (rw [az_b1 (by assumption)]) | (rw [az_b0 (by assumption)]) | (rw [az_b1 (by omega)]) | (rw [az_b0 (by omega)])
        rw [e9]
        exact ih _ (by omega) (k + 1) rfl (by omega)
      · have h2 : S 3 < zT S k 3 := h2
        refine az_to 6 (pc2 := 4) (lv2 := [some (az_r 34), some (az_i ((zs k (fun t => az_b (S 3 < zT S t 3)) + 1))), some (az_i ((((k : Nat) : Int) + 1)))]) (st2 := []) (s2 := s) rfl ?_
        have e9 : (zs k (fun t => az_b (S 3 < zT S t 3)) + 1) = zs (k + 1) (fun t => az_b (S 3 < zT S t 3)) := by
          show _ = zs k _ + _
          dsimp only
          first | rfl | (rw [az_b1 (by assumption)]) | (rw [az_b0 (by assumption)]) | (rw [az_b1 (by omega)]) | (rw [az_b0 (by omega)])
        rw [e9]
        exact ih _ (by omega) (k + 1) rfl (by omega)
set_option maxRecDepth 100000 in
set_option maxHeartbeats 800000 in
theorem zs_X10_holding {d : Nat} {s : az_S} (hd : 2 ≤ d) {S : zR} {h : Nat} (hS : s 35 = S) (hI : zInv S h) (hh : h ≤ 10000) : az_R d am_m_X10_holding 0 (az_ini (am_mL am_m_X10_holding) [az_r 34]) [] (s) (az_ret (some (az_i (zhl S))) (s)) := by
  have hz := zI_h hI hh
  have hs0 : s 35 0 = ((zn S 0 : Nat) : Int) := by rw [hS, hz.2.1.1]
  have hs1 : s 35 1 = ((zn S 1 : Nat) : Int) := by rw [hS, hz.2.1.2.1]
  have hs2 : s 35 2 = ((zn S 2 : Nat) : Int) := by rw [hS, hz.2.1.2.2]
  have hs3 : s 35 3 = S 3 := by rw [hS]
  have hs5 : s 35 5 = S 5 := by rw [hS]
  refine az_to 0 (pc2 := 0) (lv2 := [some (az_r 34), none, none]) (st2 := []) (s2 := s) rfl ?_
  refine az_to 4 (pc2 := 4) (lv2 := [some (az_r 34), some (az_i (0)), some (az_i (0))]) (st2 := []) (s2 := s) rfl ?_
  exact zs_X10_holding_L4 (by omega) hS hI hh _ 0 rfl (by omega)
set_option maxRecDepth 100000 in
set_option maxHeartbeats 800000 in
theorem zs_X10_inFog_L4 {d : Nat} {s : az_S} (hd : 2 ≤ d) {S : zR} {h : Nat} (hS : s 35 = S) (hI : zInv S h) (hh : h ≤ 10000) : ∀ (m : Nat) (k : Nat), m = zn S 0 - k → (k ≤ zn S 0) → az_R d am_m_X10_inFog 4 [some (az_r 34), some (az_i (zs k (fun b => az_b (S 3 < zB S b 4)))), some (az_i (((k : Nat) : Int)))] [] (s) (az_ret (some (az_i (zcf S))) (s)) := by
  intro m
  induction m using Nat.strongRecOn with
  | _ m ih =>
    intro k hm g0
    have hz := zI_h hI hh
    have hs0 : s 35 0 = ((zn S 0 : Nat) : Int) := by rw [hS, hz.2.1.1]
    have hs1 : s 35 1 = ((zn S 1 : Nat) : Int) := by rw [hS, hz.2.1.2.1]
    have hs2 : s 35 2 = ((zn S 2 : Nat) : Int) := by rw [hS, hz.2.1.2.2]
    have hs3 : s 35 3 = S 3 := by rw [hS]
    have hs5 : s 35 5 = S 5 := by rw [hS]
    refine az_to 4 (pc2 := 10) (lv2 := [some (az_r 34), some (az_i (zs k (fun b => az_b (S 3 < zB S b 4)))), some (az_i (((k : Nat) : Int)))]) (st2 := [az_i (0), az_r 35, az_i (((k : Nat) : Int))]) (s2 := s) rfl ?_
    refine az_ld_i 11 rfl rfl (by constructor <;> omega) ⟨by decide, rfl⟩ ?_
    refine az_to 0 (pc2 := 11) (lv2 := [some (az_r 34), some (az_i (zs k (fun b => az_b (S 3 < zB S b 4)))), some (az_i (((k : Nat) : Int)))]) (st2 := [az_i (s 35 0), az_i (((k : Nat) : Int))]) (s2 := s) rfl ?_
    refine az_to 0 (pc2 := 11) (lv2 := [some (az_r 34), some (az_i (zs k (fun b => az_b (S 3 < zB S b 4)))), some (az_i (((k : Nat) : Int)))]) (st2 := [az_i (((zn S 0 : Nat) : Int)), az_i (((k : Nat) : Int))]) (s2 := s) (by rw [show s 35 0 = ((zn S 0 : Nat) : Int) from hs0]; rfl) ?_
    refine az_if2 36 14 rfl (by decide) (by first | assumption | exact ⟨by omega, by omega⟩) (by first | assumption | exact ⟨by omega, by omega⟩) (fun h1 => ?_) (fun h1 => ?_)
    · have h1 : ((zn S 0 : Nat) : Int) ≤ ((k : Nat) : Int) := h1
      refine az_to 1 (pc2 := 37) (lv2 := [some (az_r 34), some (az_i (zs k (fun b => az_b (S 3 < zB S b 4)))), some (az_i (((k : Nat) : Int)))]) (st2 := [az_i (zs k (fun b => az_b (S 3 < zB S b 4)))]) (s2 := s) rfl ?_
      refine az_retI rfl rfl ?_
      obtain rfl : k = zn S 0 := by omega
      exact ⟨rfl, rfl⟩
    · have h1 : ¬ (((zn S 0 : Nat) : Int) ≤ ((k : Nat) : Int)) := h1
      refine az_to 3 (pc2 := 17) (lv2 := [some (az_r 34), some (az_i (zs k (fun b => az_b (S 3 < zB S b 4)))), some (az_i (((k : Nat) : Int)))]) (st2 := [az_i (((k : Nat) : Int)), az_r 34, az_i (zs k (fun b => az_b (S 3 < zB S b 4)))]) (s2 := s) rfl ?_
      refine az_clv (v := some (az_i (az_b (S 3 < zB S k 4)))) (t := s) (m2 := am_m_X10_isInFog) (as := [az_r 34, az_i (((k : Nat) : Int))]) (rest := [az_i (zs k (fun b => az_b (S 3 < zB S b 4)))]) 20 rfl rfl ⟨rfl, rfl⟩ (by omega) (zs_X10_isInFog (s := s) (b := k) (by omega) hS hI hh (by omega)) ?_
      refine az_to 0 (pc2 := 20) (lv2 := [some (az_r 34), some (az_i (zs k (fun b => az_b (S 3 < zB S b 4)))), some (az_i (((k : Nat) : Int)))]) (st2 := [az_i (az_b (S 3 < zB S k 4)), az_i (zs k (fun b => az_b (S 3 < zB S b 4)))]) (s2 := s) rfl ?_
      refine az_ifbe 27 23 rfl (by decide) (fun h2 => ?_) (fun h2 => ?_)
      · have h2 : ¬ (S 3 < zB S k 4) := h2
        refine az_to 5 (pc2 := 4) (lv2 := [some (az_r 34), some (az_i ((zs k (fun b => az_b (S 3 < zB S b 4)) + 0))), some (az_i ((((k : Nat) : Int) + 1)))]) (st2 := []) (s2 := s) rfl ?_
        have e9 : (zs k (fun b => az_b (S 3 < zB S b 4)) + 0) = zs (k + 1) (fun b => az_b (S 3 < zB S b 4)) := by
          show _ = zs k _ + _
          dsimp only
          first | rfl | (rw [az_b1 (by assumption)]) | (rw [az_b0 (by assumption)]) | (rw [az_b1 (by omega)]) | (rw [az_b0 (by omega)])
        rw [e9]
        exact ih _ (by omega) (k + 1) rfl (by omega)
      · have h2 : S 3 < zB S k 4 := h2
        refine az_to 6 (pc2 := 4) (lv2 := [some (az_r 34), some (az_i ((zs k (fun b => az_b (S 3 < zB S b 4)) + 1))), some (az_i ((((k : Nat) : Int) + 1)))]) (st2 := []) (s2 := s) rfl ?_
        have e9 : (zs k (fun b => az_b (S 3 < zB S b 4)) + 1) = zs (k + 1) (fun b => az_b (S 3 < zB S b 4)) := by
          show _ = zs k _ + _
          dsimp only
          first | rfl | (rw [az_b1 (by assumption)]) | (rw [az_b0 (by assumption)]) | (rw [az_b1 (by omega)]) | (rw [az_b0 (by omega)])
        rw [e9]
        exact ih _ (by omega) (k + 1) rfl (by omega)
set_option maxRecDepth 100000 in
set_option maxHeartbeats 800000 in
theorem zs_X10_inFog {d : Nat} {s : az_S} (hd : 2 ≤ d) {S : zR} {h : Nat} (hS : s 35 = S) (hI : zInv S h) (hh : h ≤ 10000) : az_R d am_m_X10_inFog 0 (az_ini (am_mL am_m_X10_inFog) [az_r 34]) [] (s) (az_ret (some (az_i (zcf S))) (s)) := by
  have hz := zI_h hI hh
  have hs0 : s 35 0 = ((zn S 0 : Nat) : Int) := by rw [hS, hz.2.1.1]
  have hs1 : s 35 1 = ((zn S 1 : Nat) : Int) := by rw [hS, hz.2.1.2.1]
  have hs2 : s 35 2 = ((zn S 2 : Nat) : Int) := by rw [hS, hz.2.1.2.2]
  have hs3 : s 35 3 = S 3 := by rw [hS]
  have hs5 : s 35 5 = S 5 := by rw [hS]
  refine az_to 0 (pc2 := 0) (lv2 := [some (az_r 34), none, none]) (st2 := []) (s2 := s) rfl ?_
  refine az_to 4 (pc2 := 4) (lv2 := [some (az_r 34), some (az_i (0)), some (az_i (0))]) (st2 := []) (s2 := s) rfl ?_
  exact zs_X10_inFog_L4 (by omega) hS hI hh _ 0 rfl (by omega)
set_option maxRecDepth 100000 in
set_option maxHeartbeats 800000 in
theorem zs_X10_coinsOfGoats_L4 {d : Nat} {s : az_S} (hd : 1 ≤ d) {S : zR} {h : Nat} (hS : s 35 = S) (hI : zInv S h) (hh : h ≤ 10000) : ∀ (m : Nat) (k : Nat), m = zn S 2 - k → (k ≤ zn S 2) → az_R d am_m_X10_coinsOfGoats 4 [some (az_r 34), some (az_i (zs k (fun g => zG S g 1))), some (az_i (((k : Nat) : Int)))] [] (s) (az_ret (some (az_i (zsg S 1))) (s)) := by
  intro m
  induction m using Nat.strongRecOn with
  | _ m ih =>
    intro k hm g0
    have hz := zI_h hI hh
    have hs0 : s 35 0 = ((zn S 0 : Nat) : Int) := by rw [hS, hz.2.1.1]
    have hs1 : s 35 1 = ((zn S 1 : Nat) : Int) := by rw [hS, hz.2.1.2.1]
    have hs2 : s 35 2 = ((zn S 2 : Nat) : Int) := by rw [hS, hz.2.1.2.2]
    have hs3 : s 35 3 = S 3 := by rw [hS]
    have hs5 : s 35 5 = S 5 := by rw [hS]
    refine az_to 4 (pc2 := 10) (lv2 := [some (az_r 34), some (az_i (zs k (fun g => zG S g 1))), some (az_i (((k : Nat) : Int)))]) (st2 := [az_i (2), az_r 35, az_i (((k : Nat) : Int))]) (s2 := s) rfl ?_
    refine az_ld_i 11 rfl rfl (by constructor <;> omega) ⟨by decide, rfl⟩ ?_
    refine az_to 0 (pc2 := 11) (lv2 := [some (az_r 34), some (az_i (zs k (fun g => zG S g 1))), some (az_i (((k : Nat) : Int)))]) (st2 := [az_i (s 35 2), az_i (((k : Nat) : Int))]) (s2 := s) rfl ?_
    refine az_to 0 (pc2 := 11) (lv2 := [some (az_r 34), some (az_i (zs k (fun g => zG S g 1))), some (az_i (((k : Nat) : Int)))]) (st2 := [az_i (((zn S 2 : Nat) : Int)), az_i (((k : Nat) : Int))]) (s2 := s) (by rw [show s 35 2 = ((zn S 2 : Nat) : Int) from hs2]; rfl) ?_
    refine az_if2 29 14 rfl (by decide) (by first | assumption | exact ⟨by omega, by omega⟩) (by first | assumption | exact ⟨by omega, by omega⟩) (fun h1 => ?_) (fun h1 => ?_)
    · have h1 : ((zn S 2 : Nat) : Int) ≤ ((k : Nat) : Int) := h1
      refine az_to 1 (pc2 := 30) (lv2 := [some (az_r 34), some (az_i (zs k (fun g => zG S g 1))), some (az_i (((k : Nat) : Int)))]) (st2 := [az_i (zs k (fun g => zG S g 1))]) (s2 := s) rfl ?_
      refine az_retI rfl rfl ?_
      obtain rfl : k = zn S 2 := by omega
      exact ⟨rfl, rfl⟩
    · have h1 : ¬ (((zn S 2 : Nat) : Int) ≤ ((k : Nat) : Int)) := h1
      refine az_to 4 (pc2 := 18) (lv2 := [some (az_r 34), some (az_i (zs k (fun g => zG S g 1))), some (az_i (((k : Nat) : Int)))]) (st2 := [az_i (1), az_i (((k : Nat) : Int)), az_r 34, az_i (zs k (fun g => zG S g 1))]) (s2 := s) rfl ?_
      refine az_clv (v := some (az_i (zG S k 1))) (t := s) (m2 := am_m_X10_ofGoat) (as := [az_r 34, az_i (((k : Nat) : Int)), az_i (1)]) (rest := [az_i (zs k (fun g => zG S g 1))]) 21 rfl rfl ⟨rfl, rfl⟩ (by omega) (zs_X10_ofGoat (s := s) (g := k) (k := 1) (by omega) hS (by omega) (by omega)) ?_
      refine az_to 0 (pc2 := 21) (lv2 := [some (az_r 34), some (az_i (zs k (fun g => zG S g 1))), some (az_i (((k : Nat) : Int)))]) (st2 := [az_i (zG S k 1), az_i (zs k (fun g => zG S g 1))]) (s2 := s) rfl ?_
      refine az_to 4 (pc2 := 4) (lv2 := [some (az_r 34), some (az_i ((zs k (fun g => zG S g 1) + zG S k 1))), some (az_i ((((k : Nat) : Int) + 1)))]) (st2 := []) (s2 := s) rfl ?_
      have e9 : (zs k (fun g => zG S g 1) + zG S k 1) = zs (k + 1) (fun g => zG S g 1) := by
        show _ = zs k _ + _
        rfl
      rw [e9]
      exact ih _ (by omega) (k + 1) rfl (by omega)
set_option maxRecDepth 100000 in
set_option maxHeartbeats 800000 in
theorem zs_X10_coinsOfGoats {d : Nat} {s : az_S} (hd : 1 ≤ d) {S : zR} {h : Nat} (hS : s 35 = S) (hI : zInv S h) (hh : h ≤ 10000) : az_R d am_m_X10_coinsOfGoats 0 (az_ini (am_mL am_m_X10_coinsOfGoats) [az_r 34]) [] (s) (az_ret (some (az_i (zsg S 1))) (s)) := by
  have hz := zI_h hI hh
  have hs0 : s 35 0 = ((zn S 0 : Nat) : Int) := by rw [hS, hz.2.1.1]
  have hs1 : s 35 1 = ((zn S 1 : Nat) : Int) := by rw [hS, hz.2.1.2.1]
  have hs2 : s 35 2 = ((zn S 2 : Nat) : Int) := by rw [hS, hz.2.1.2.2]
  have hs3 : s 35 3 = S 3 := by rw [hS]
  have hs5 : s 35 5 = S 5 := by rw [hS]
  refine az_to 0 (pc2 := 0) (lv2 := [some (az_r 34), none, none]) (st2 := []) (s2 := s) rfl ?_
  refine az_to 4 (pc2 := 4) (lv2 := [some (az_r 34), some (az_i (0)), some (az_i (0))]) (st2 := []) (s2 := s) rfl ?_
  exact zs_X10_coinsOfGoats_L4 (by omega) hS hI hh _ 0 rfl (by omega)
set_option maxRecDepth 100000 in
set_option maxHeartbeats 800000 in
theorem zs_X10_coinsOfTrolls_L4 {d : Nat} {s : az_S} (hd : 1 ≤ d) {S : zR} {h : Nat} (hS : s 35 = S) (hI : zInv S h) (hh : h ≤ 10000) : ∀ (m : Nat) (k : Nat), m = zn S 1 - k → (k ≤ zn S 1) → az_R d am_m_X10_coinsOfTrolls 4 [some (az_r 34), some (az_i (zs k (fun t => zT S t 1))), some (az_i (((k : Nat) : Int)))] [] (s) (az_ret (some (az_i (zst S 1))) (s)) := by
  intro m
  induction m using Nat.strongRecOn with
  | _ m ih =>
    intro k hm g0
    have hz := zI_h hI hh
    have hs0 : s 35 0 = ((zn S 0 : Nat) : Int) := by rw [hS, hz.2.1.1]
    have hs1 : s 35 1 = ((zn S 1 : Nat) : Int) := by rw [hS, hz.2.1.2.1]
    have hs2 : s 35 2 = ((zn S 2 : Nat) : Int) := by rw [hS, hz.2.1.2.2]
    have hs3 : s 35 3 = S 3 := by rw [hS]
    have hs5 : s 35 5 = S 5 := by rw [hS]
    refine az_to 4 (pc2 := 10) (lv2 := [some (az_r 34), some (az_i (zs k (fun t => zT S t 1))), some (az_i (((k : Nat) : Int)))]) (st2 := [az_i (1), az_r 35, az_i (((k : Nat) : Int))]) (s2 := s) rfl ?_
    refine az_ld_i 11 rfl rfl (by constructor <;> omega) ⟨by decide, rfl⟩ ?_
    refine az_to 0 (pc2 := 11) (lv2 := [some (az_r 34), some (az_i (zs k (fun t => zT S t 1))), some (az_i (((k : Nat) : Int)))]) (st2 := [az_i (s 35 1), az_i (((k : Nat) : Int))]) (s2 := s) rfl ?_
    refine az_to 0 (pc2 := 11) (lv2 := [some (az_r 34), some (az_i (zs k (fun t => zT S t 1))), some (az_i (((k : Nat) : Int)))]) (st2 := [az_i (((zn S 1 : Nat) : Int)), az_i (((k : Nat) : Int))]) (s2 := s) (by rw [show s 35 1 = ((zn S 1 : Nat) : Int) from hs1]; rfl) ?_
    refine az_if2 29 14 rfl (by decide) (by first | assumption | exact ⟨by omega, by omega⟩) (by first | assumption | exact ⟨by omega, by omega⟩) (fun h1 => ?_) (fun h1 => ?_)
    · have h1 : ((zn S 1 : Nat) : Int) ≤ ((k : Nat) : Int) := h1
      refine az_to 1 (pc2 := 30) (lv2 := [some (az_r 34), some (az_i (zs k (fun t => zT S t 1))), some (az_i (((k : Nat) : Int)))]) (st2 := [az_i (zs k (fun t => zT S t 1))]) (s2 := s) rfl ?_
      refine az_retI rfl rfl ?_
      obtain rfl : k = zn S 1 := by omega
      exact ⟨rfl, rfl⟩
    · have h1 : ¬ (((zn S 1 : Nat) : Int) ≤ ((k : Nat) : Int)) := h1
      refine az_to 4 (pc2 := 18) (lv2 := [some (az_r 34), some (az_i (zs k (fun t => zT S t 1))), some (az_i (((k : Nat) : Int)))]) (st2 := [az_i (1), az_i (((k : Nat) : Int)), az_r 34, az_i (zs k (fun t => zT S t 1))]) (s2 := s) rfl ?_
      refine az_clv (v := some (az_i (zT S k 1))) (t := s) (m2 := am_m_X10_ofTroll) (as := [az_r 34, az_i (((k : Nat) : Int)), az_i (1)]) (rest := [az_i (zs k (fun t => zT S t 1))]) 21 rfl rfl ⟨rfl, rfl⟩ (by omega) (zs_X10_ofTroll (s := s) (t := k) (k := 1) (by omega) hS (by omega) (by omega)) ?_
      refine az_to 0 (pc2 := 21) (lv2 := [some (az_r 34), some (az_i (zs k (fun t => zT S t 1))), some (az_i (((k : Nat) : Int)))]) (st2 := [az_i (zT S k 1), az_i (zs k (fun t => zT S t 1))]) (s2 := s) rfl ?_
      refine az_to 4 (pc2 := 4) (lv2 := [some (az_r 34), some (az_i ((zs k (fun t => zT S t 1) + zT S k 1))), some (az_i ((((k : Nat) : Int) + 1)))]) (st2 := []) (s2 := s) rfl ?_
      have e9 : (zs k (fun t => zT S t 1) + zT S k 1) = zs (k + 1) (fun t => zT S t 1) := by
        show _ = zs k _ + _
        rfl
      rw [e9]
      exact ih _ (by omega) (k + 1) rfl (by omega)
set_option maxRecDepth 100000 in
set_option maxHeartbeats 800000 in
theorem zs_X10_coinsOfTrolls {d : Nat} {s : az_S} (hd : 1 ≤ d) {S : zR} {h : Nat} (hS : s 35 = S) (hI : zInv S h) (hh : h ≤ 10000) : az_R d am_m_X10_coinsOfTrolls 0 (az_ini (am_mL am_m_X10_coinsOfTrolls) [az_r 34]) [] (s) (az_ret (some (az_i (zst S 1))) (s)) := by
  have hz := zI_h hI hh
  have hs0 : s 35 0 = ((zn S 0 : Nat) : Int) := by rw [hS, hz.2.1.1]
  have hs1 : s 35 1 = ((zn S 1 : Nat) : Int) := by rw [hS, hz.2.1.2.1]
  have hs2 : s 35 2 = ((zn S 2 : Nat) : Int) := by rw [hS, hz.2.1.2.2]
  have hs3 : s 35 3 = S 3 := by rw [hS]
  have hs5 : s 35 5 = S 5 := by rw [hS]
  refine az_to 0 (pc2 := 0) (lv2 := [some (az_r 34), none, none]) (st2 := []) (s2 := s) rfl ?_
  refine az_to 4 (pc2 := 4) (lv2 := [some (az_r 34), some (az_i (0)), some (az_i (0))]) (st2 := []) (s2 := s) rfl ?_
  exact zs_X10_coinsOfTrolls_L4 (by omega) hS hI hh _ 0 rfl (by omega)
set_option maxRecDepth 100000 in
set_option maxHeartbeats 800000 in
theorem zs_X10_chests_L4 {d : Nat} {s : az_S} (hd : 2 ≤ d) {S : zR} {h : Nat} (hS : s 35 = S) (hI : zInv S h) (hh : h ≤ 10000) : ∀ (m : Nat) (k : Nat), m = zn S 0 - k → (k ≤ zn S 0) → az_R d am_m_X10_chests 4 [some (az_r 34), some (az_i (zs k (fun b => zs5 S b))), some (az_i (((k : Nat) : Int)))] [] (s) (az_ret (some (az_i (zs (zn S 0) (fun b => zs5 S b)))) (s)) := by
  intro m
  induction m using Nat.strongRecOn with
  | _ m ih =>
    intro k hm g0
    have hz := zI_h hI hh
    have hs0 : s 35 0 = ((zn S 0 : Nat) : Int) := by rw [hS, hz.2.1.1]
    have hs1 : s 35 1 = ((zn S 1 : Nat) : Int) := by rw [hS, hz.2.1.2.1]
    have hs2 : s 35 2 = ((zn S 2 : Nat) : Int) := by rw [hS, hz.2.1.2.2]
    have hs3 : s 35 3 = S 3 := by rw [hS]
    have hs5 : s 35 5 = S 5 := by rw [hS]
    refine az_to 4 (pc2 := 10) (lv2 := [some (az_r 34), some (az_i (zs k (fun b => zs5 S b))), some (az_i (((k : Nat) : Int)))]) (st2 := [az_i (0), az_r 35, az_i (((k : Nat) : Int))]) (s2 := s) rfl ?_
    refine az_ld_i 11 rfl rfl (by constructor <;> omega) ⟨by decide, rfl⟩ ?_
    refine az_to 0 (pc2 := 11) (lv2 := [some (az_r 34), some (az_i (zs k (fun b => zs5 S b))), some (az_i (((k : Nat) : Int)))]) (st2 := [az_i (s 35 0), az_i (((k : Nat) : Int))]) (s2 := s) rfl ?_
    refine az_to 0 (pc2 := 11) (lv2 := [some (az_r 34), some (az_i (zs k (fun b => zs5 S b))), some (az_i (((k : Nat) : Int)))]) (st2 := [az_i (((zn S 0 : Nat) : Int)), az_i (((k : Nat) : Int))]) (s2 := s) (by rw [show s 35 0 = ((zn S 0 : Nat) : Int) from hs0]; rfl) ?_
    refine az_if2 28 14 rfl (by decide) (by first | assumption | exact ⟨by omega, by omega⟩) (by first | assumption | exact ⟨by omega, by omega⟩) (fun h1 => ?_) (fun h1 => ?_)
    · have h1 : ((zn S 0 : Nat) : Int) ≤ ((k : Nat) : Int) := h1
      refine az_to 1 (pc2 := 29) (lv2 := [some (az_r 34), some (az_i (zs k (fun b => zs5 S b))), some (az_i (((k : Nat) : Int)))]) (st2 := [az_i (zs k (fun b => zs5 S b))]) (s2 := s) rfl ?_
      refine az_retI rfl rfl ?_
      obtain rfl : k = zn S 0 := by omega
      exact ⟨rfl, rfl⟩
    · have h1 : ¬ (((zn S 0 : Nat) : Int) ≤ ((k : Nat) : Int)) := h1
      refine az_to 3 (pc2 := 17) (lv2 := [some (az_r 34), some (az_i (zs k (fun b => zs5 S b))), some (az_i (((k : Nat) : Int)))]) (st2 := [az_i (((k : Nat) : Int)), az_r 34, az_i (zs k (fun b => zs5 S b))]) (s2 := s) rfl ?_
      refine az_clv (v := some (az_i (zs5 S k))) (t := s) (m2 := am_m_X10_chest) (as := [az_r 34, az_i (((k : Nat) : Int))]) (rest := [az_i (zs k (fun b => zs5 S b))]) 20 rfl rfl ⟨rfl, rfl⟩ (by omega) (zs_X10_chest (s := s) (b := k) (by omega) hS (by omega)) ?_
      refine az_to 0 (pc2 := 20) (lv2 := [some (az_r 34), some (az_i (zs k (fun b => zs5 S b))), some (az_i (((k : Nat) : Int)))]) (st2 := [az_i (zs5 S k), az_i (zs k (fun b => zs5 S b))]) (s2 := s) rfl ?_
      refine az_to 4 (pc2 := 4) (lv2 := [some (az_r 34), some (az_i ((zs k (fun b => zs5 S b) + zs5 S k))), some (az_i ((((k : Nat) : Int) + 1)))]) (st2 := []) (s2 := s) rfl ?_
      have e9 : (zs k (fun b => zs5 S b) + zs5 S k) = zs (k + 1) (fun b => zs5 S b) := by
        show _ = zs k _ + _
        rfl
      rw [e9]
      exact ih _ (by omega) (k + 1) rfl (by omega)
set_option maxRecDepth 100000 in
set_option maxHeartbeats 800000 in
theorem zs_X10_chests {d : Nat} {s : az_S} (hd : 2 ≤ d) {S : zR} {h : Nat} (hS : s 35 = S) (hI : zInv S h) (hh : h ≤ 10000) : az_R d am_m_X10_chests 0 (az_ini (am_mL am_m_X10_chests) [az_r 34]) [] (s) (az_ret (some (az_i (zs (zn S 0) (fun b => zs5 S b)))) (s)) := by
  have hz := zI_h hI hh
  have hs0 : s 35 0 = ((zn S 0 : Nat) : Int) := by rw [hS, hz.2.1.1]
  have hs1 : s 35 1 = ((zn S 1 : Nat) : Int) := by rw [hS, hz.2.1.2.1]
  have hs2 : s 35 2 = ((zn S 2 : Nat) : Int) := by rw [hS, hz.2.1.2.2]
  have hs3 : s 35 3 = S 3 := by rw [hS]
  have hs5 : s 35 5 = S 5 := by rw [hS]
  refine az_to 0 (pc2 := 0) (lv2 := [some (az_r 34), none, none]) (st2 := []) (s2 := s) rfl ?_
  refine az_to 4 (pc2 := 4) (lv2 := [some (az_r 34), some (az_i (0)), some (az_i (0))]) (st2 := []) (s2 := s) rfl ?_
  exact zs_X10_chests_L4 (by omega) hS hI hh _ 0 rfl (by omega)
set_option maxRecDepth 100000 in
set_option maxHeartbeats 800000 in
theorem zs_X10_inChests_L4 {d : Nat} {s : az_S} (hd : 1 ≤ d) {S : zR} {h : Nat} (hS : s 35 = S) (hI : zInv S h) (hh : h ≤ 10000) {g : Nat} (hg : g < 5) : ∀ (m : Nat) (k : Nat), m = zn S 0 - k → (k ≤ zn S 0) → az_R d am_m_X10_inChests 4 [some (az_r 34), some (az_i (((g : Nat) : Int))), some (az_i (zs k (fun b => zB S b (7 + g)))), some (az_i (((k : Nat) : Int)))] [] (s) (az_ret (some (az_i (zcg S g))) (s)) := by
  intro m
  induction m using Nat.strongRecOn with
  | _ m ih =>
    intro k hm g0
    have hz := zI_h hI hh
    have hs0 : s 35 0 = ((zn S 0 : Nat) : Int) := by rw [hS, hz.2.1.1]
    have hs1 : s 35 1 = ((zn S 1 : Nat) : Int) := by rw [hS, hz.2.1.2.1]
    have hs2 : s 35 2 = ((zn S 2 : Nat) : Int) := by rw [hS, hz.2.1.2.2]
    have hs3 : s 35 3 = S 3 := by rw [hS]
    have hs5 : s 35 5 = S 5 := by rw [hS]
    refine az_to 4 (pc2 := 10) (lv2 := [some (az_r 34), some (az_i (((g : Nat) : Int))), some (az_i (zs k (fun b => zB S b (7 + g)))), some (az_i (((k : Nat) : Int)))]) (st2 := [az_i (0), az_r 35, az_i (((k : Nat) : Int))]) (s2 := s) rfl ?_
    refine az_ld_i 11 rfl rfl (by constructor <;> omega) ⟨by decide, rfl⟩ ?_
    refine az_to 0 (pc2 := 11) (lv2 := [some (az_r 34), some (az_i (((g : Nat) : Int))), some (az_i (zs k (fun b => zB S b (7 + g)))), some (az_i (((k : Nat) : Int)))]) (st2 := [az_i (s 35 0), az_i (((k : Nat) : Int))]) (s2 := s) rfl ?_
    refine az_to 0 (pc2 := 11) (lv2 := [some (az_r 34), some (az_i (((g : Nat) : Int))), some (az_i (zs k (fun b => zB S b (7 + g)))), some (az_i (((k : Nat) : Int)))]) (st2 := [az_i (((zn S 0 : Nat) : Int)), az_i (((k : Nat) : Int))]) (s2 := s) (by rw [show s 35 0 = ((zn S 0 : Nat) : Int) from hs0]; rfl) ?_
    refine az_if2 32 14 rfl (by decide) (by first | assumption | exact ⟨by omega, by omega⟩) (by first | assumption | exact ⟨by omega, by omega⟩) (fun h1 => ?_) (fun h1 => ?_)
    · have h1 : ((zn S 0 : Nat) : Int) ≤ ((k : Nat) : Int) := h1
      refine az_to 1 (pc2 := 33) (lv2 := [some (az_r 34), some (az_i (((g : Nat) : Int))), some (az_i (zs k (fun b => zB S b (7 + g)))), some (az_i (((k : Nat) : Int)))]) (st2 := [az_i (zs k (fun b => zB S b (7 + g)))]) (s2 := s) rfl ?_
      refine az_retI rfl rfl ?_
      obtain rfl : k = zn S 0 := by omega
      exact ⟨rfl, rfl⟩
    · have h1 : ¬ (((zn S 0 : Nat) : Int) ≤ ((k : Nat) : Int)) := h1
      refine az_to 6 (pc2 := 21) (lv2 := [some (az_r 34), some (az_i (((g : Nat) : Int))), some (az_i (zs k (fun b => zB S b (7 + g)))), some (az_i (((k : Nat) : Int)))]) (st2 := [az_i ((7 + ((g : Nat) : Int))), az_i (((k : Nat) : Int)), az_r 34, az_i (zs k (fun b => zB S b (7 + g)))]) (s2 := s) rfl ?_
      refine az_clv (v := some (az_i (zB S k (7 + g)))) (t := s) (m2 := am_m_X10_of) (as := [az_r 34, az_i (((k : Nat) : Int)), az_i ((7 + ((g : Nat) : Int)))]) (rest := [az_i (zs k (fun b => zB S b (7 + g)))]) 24 rfl rfl ⟨rfl, rfl⟩ (by omega) (zs_X10_of (s := s) (b := k) (k := (7 + g)) (by omega) hS (by omega) (by omega)) ?_
      refine az_to 0 (pc2 := 24) (lv2 := [some (az_r 34), some (az_i (((g : Nat) : Int))), some (az_i (zs k (fun b => zB S b (7 + g)))), some (az_i (((k : Nat) : Int)))]) (st2 := [az_i (zB S k (7 + g)), az_i (zs k (fun b => zB S b (7 + g)))]) (s2 := s) rfl ?_
      refine az_to 4 (pc2 := 4) (lv2 := [some (az_r 34), some (az_i (((g : Nat) : Int))), some (az_i ((zs k (fun b => zB S b (7 + g)) + zB S k (7 + g)))), some (az_i ((((k : Nat) : Int) + 1)))]) (st2 := []) (s2 := s) rfl ?_
      have e9 : (zs k (fun b => zB S b (7 + g)) + zB S k (7 + g)) = zs (k + 1) (fun b => zB S b (7 + g)) := by
        show _ = zs k _ + _
        rfl
      rw [e9]
      exact ih _ (by omega) (k + 1) rfl (by omega)
set_option maxRecDepth 100000 in
set_option maxHeartbeats 800000 in
theorem zs_X10_inChests {d : Nat} {s : az_S} (hd : 1 ≤ d) {S : zR} {h : Nat} (hS : s 35 = S) (hI : zInv S h) (hh : h ≤ 10000) {g : Nat} (hg : g < 5) : az_R d am_m_X10_inChests 0 (az_ini (am_mL am_m_X10_inChests) [az_r 34, az_i (((g : Nat) : Int))]) [] (s) (az_ret (some (az_i (zcg S g))) (s)) := by
  have hz := zI_h hI hh
  have hs0 : s 35 0 = ((zn S 0 : Nat) : Int) := by rw [hS, hz.2.1.1]
  have hs1 : s 35 1 = ((zn S 1 : Nat) : Int) := by rw [hS, hz.2.1.2.1]
  have hs2 : s 35 2 = ((zn S 2 : Nat) : Int) := by rw [hS, hz.2.1.2.2]
  have hs3 : s 35 3 = S 3 := by rw [hS]
  have hs5 : s 35 5 = S 5 := by rw [hS]
  refine az_to 0 (pc2 := 0) (lv2 := [some (az_r 34), some (az_i (((g : Nat) : Int))), none, none]) (st2 := []) (s2 := s) rfl ?_
  refine az_to 4 (pc2 := 4) (lv2 := [some (az_r 34), some (az_i (((g : Nat) : Int))), some (az_i (0)), some (az_i (0))]) (st2 := []) (s2 := s) rfl ?_
  exact zs_X10_inChests_L4 (by omega) hS hI hh hg _ 0 rfl (by omega)
set_option maxRecDepth 100000 in
set_option maxHeartbeats 800000 in
theorem zs_X10_counted_L9 {d : Nat} {s : az_S} (hd : 2 ≤ d) {S : zR} {h : Nat} (hS : s 35 = S) (hI : zInv S h) (hh : h ≤ 10000) : ∀ (m : Nat) (k : Nat), m = zn S 0 - k → (k ≤ zn S 0) → az_R d am_m_X10_counted 9 [some (az_r 34), some (az_i (zs k (fun b => az_b (0 ≤ zat S b)))), some (az_i (((k : Nat) : Int)))] [] (am_up s 34 6 (0)) (az_ret (some (az_i (zcc S))) (am_up s 34 6 (0))) := by
  intro m
  induction m using Nat.strongRecOn with
  | _ m ih =>
    intro k hm g0
    have hz := zI_h hI hh
    have hs0 : s 35 0 = ((zn S 0 : Nat) : Int) := by rw [hS, hz.2.1.1]
    have hs1 : s 35 1 = ((zn S 1 : Nat) : Int) := by rw [hS, hz.2.1.2.1]
    have hs2 : s 35 2 = ((zn S 2 : Nat) : Int) := by rw [hS, hz.2.1.2.2]
    have hs3 : s 35 3 = S 3 := by rw [hS]
    have hs5 : s 35 5 = S 5 := by rw [hS]
    refine az_to 4 (pc2 := 15) (lv2 := [some (az_r 34), some (az_i (zs k (fun b => az_b (0 ≤ zat S b)))), some (az_i (((k : Nat) : Int)))]) (st2 := [az_i (0), az_r 35, az_i (((k : Nat) : Int))]) (s2 := am_up s 34 6 (0)) rfl ?_
    refine az_ld_i 16 rfl rfl (by constructor <;> omega) ⟨by decide, rfl⟩ ?_
    refine az_to 0 (pc2 := 16) (lv2 := [some (az_r 34), some (az_i (zs k (fun b => az_b (0 ≤ zat S b)))), some (az_i (((k : Nat) : Int)))]) (st2 := [az_i ((am_up s 34 6 (0)) 35 0), az_i (((k : Nat) : Int))]) (s2 := am_up s 34 6 (0)) rfl ?_
    refine az_to 0 (pc2 := 16) (lv2 := [some (az_r 34), some (az_i (zs k (fun b => az_b (0 ≤ zat S b)))), some (az_i (((k : Nat) : Int)))]) (st2 := [az_i (((zn S 0 : Nat) : Int)), az_i (((k : Nat) : Int))]) (s2 := am_up s 34 6 (0)) (by rw [show (am_up s 34 6 (0)) 35 0 = ((zn S 0 : Nat) : Int) from hs0]; rfl) ?_
    refine az_if2 41 19 rfl (by decide) (by first | assumption | exact ⟨by omega, by omega⟩) (by first | assumption | exact ⟨by omega, by omega⟩) (fun h1 => ?_) (fun h1 => ?_)
    · have h1 : ((zn S 0 : Nat) : Int) ≤ ((k : Nat) : Int) := h1
      refine az_to 1 (pc2 := 42) (lv2 := [some (az_r 34), some (az_i (zs k (fun b => az_b (0 ≤ zat S b)))), some (az_i (((k : Nat) : Int)))]) (st2 := [az_i (zs k (fun b => az_b (0 ≤ zat S b)))]) (s2 := am_up s 34 6 (0)) rfl ?_
      refine az_retI rfl rfl ?_
      obtain rfl : k = zn S 0 := by omega
      exact ⟨rfl, rfl⟩
    · have h1 : ¬ (((zn S 0 : Nat) : Int) ≤ ((k : Nat) : Int)) := h1
      have hzr := zat_r hI k
      refine az_to 3 (pc2 := 22) (lv2 := [some (az_r 34), some (az_i (zs k (fun b => az_b (0 ≤ zat S b)))), some (az_i (((k : Nat) : Int)))]) (st2 := [az_i (((k : Nat) : Int)), az_r 34, az_i (zs k (fun b => az_b (0 ≤ zat S b)))]) (s2 := am_up s 34 6 (0)) rfl ?_
      refine az_clv (v := some (az_i (zat S k))) (t := am_up s 34 6 (0)) (m2 := am_m_X10_trollAt) (as := [az_r 34, az_i (((k : Nat) : Int))]) (rest := [az_i (zs k (fun b => az_b (0 ≤ zat S b)))]) 25 rfl rfl ⟨rfl, rfl⟩ (by omega) (zs_X10_trollAt (s := am_up s 34 6 (0)) (b := k) (by omega) hS hI hh (by omega)) ?_
      refine az_to 0 (pc2 := 25) (lv2 := [some (az_r 34), some (az_i (zs k (fun b => az_b (0 ≤ zat S b)))), some (az_i (((k : Nat) : Int)))]) (st2 := [az_i (zat S k), az_i (zs k (fun b => az_b (0 ≤ zat S b)))]) (s2 := am_up s 34 6 (0)) rfl ?_
      refine az_ifc 32 28 rfl (by decide) (by first | assumption | exact ⟨by omega, by omega⟩) (fun h2 => ?_) (fun h2 => ?_)
      · have h2 : zat S k < 0 := h2
        refine az_to 5 (pc2 := 9) (lv2 := [some (az_r 34), some (az_i ((zs k (fun b => az_b (0 ≤ zat S b)) + 0))), some (az_i ((((k : Nat) : Int) + 1)))]) (st2 := []) (s2 := am_up s 34 6 (0)) rfl ?_
        have e9 : (zs k (fun b => az_b (0 ≤ zat S b)) + 0) = zs (k + 1) (fun b => az_b (0 ≤ zat S b)) := by
          show _ = zs k _ + _
          dsimp only
          first | rfl | (rw [az_b1 (by assumption)]) | (rw [az_b0 (by assumption)]) | (rw [az_b1 (by omega)]) | (rw [az_b0 (by omega)])
        rw [e9]
        exact ih _ (by omega) (k + 1) rfl (by omega)
      · have h2 : ¬ (zat S k < 0) := h2
        refine az_to 6 (pc2 := 9) (lv2 := [some (az_r 34), some (az_i ((zs k (fun b => az_b (0 ≤ zat S b)) + 1))), some (az_i ((((k : Nat) : Int) + 1)))]) (st2 := []) (s2 := am_up s 34 6 (0)) rfl ?_
        have e9 : (zs k (fun b => az_b (0 ≤ zat S b)) + 1) = zs (k + 1) (fun b => az_b (0 ≤ zat S b)) := by
          show _ = zs k _ + _
          dsimp only
          first | rfl | (rw [az_b1 (by assumption)]) | (rw [az_b0 (by assumption)]) | (rw [az_b1 (by omega)]) | (rw [az_b0 (by omega)])
        rw [e9]
        exact ih _ (by omega) (k + 1) rfl (by omega)
set_option maxRecDepth 100000 in
set_option maxHeartbeats 800000 in
theorem zs_X10_counted {d : Nat} {s : az_S} (hd : 2 ≤ d) {S : zR} {h : Nat} (hS : s 35 = S) (hI : zInv S h) (hh : h ≤ 10000) : az_R d am_m_X10_counted 0 (az_ini (am_mL am_m_X10_counted) [az_r 34]) [] (s) (az_ret (some (az_i (zcc S))) (am_up s 34 6 (0))) := by
  have hz := zI_h hI hh
  have hs0 : s 35 0 = ((zn S 0 : Nat) : Int) := by rw [hS, hz.2.1.1]
  have hs1 : s 35 1 = ((zn S 1 : Nat) : Int) := by rw [hS, hz.2.1.2.1]
  have hs2 : s 35 2 = ((zn S 2 : Nat) : Int) := by rw [hS, hz.2.1.2.2]
  have hs3 : s 35 3 = S 3 := by rw [hS]
  have hs5 : s 35 5 = S 5 := by rw [hS]
  refine az_to 0 (pc2 := 0) (lv2 := [some (az_r 34), none, none]) (st2 := []) (s2 := s) rfl ?_
  refine az_to 7 (pc2 := 9) (lv2 := [some (az_r 34), some (az_i (0)), some (az_i (0))]) (st2 := []) (s2 := am_up s 34 6 (0)) rfl ?_
  exact zs_X10_counted_L9 (by omega) hS hI hh _ 0 rfl (by omega)
set_option maxRecDepth 100000 in
set_option maxHeartbeats 800000 in
theorem zs_X10_countedAgain {d : Nat} {s : az_S} (hd : 3 ≤ d) {S : zR} {h : Nat} (hS : s 35 = S) (hI : zInv S h) (hh : h ≤ 10000) : az_R d am_m_X10_countedAgain 0 (az_ini (am_mL am_m_X10_countedAgain) [az_r 34]) [] (s) (az_ret (some (az_i (zcc S))) (am_up s 34 6 (0))) := by
  refine az_to 0 (pc2 := 0) (lv2 := [some (az_r 34)]) (st2 := []) (s2 := s) rfl ?_
  refine az_to 1 (pc2 := 1) (lv2 := [some (az_r 34)]) (st2 := [az_r 34]) (s2 := s) rfl ?_
  refine az_clv (v := some (az_i (zcc S))) (t := am_up s 34 6 (0)) (m2 := am_m_X10_counted) (as := [az_r 34]) (rest := []) 4 rfl rfl ⟨rfl, rfl⟩ (by omega) (zs_X10_counted (s := s)  (by omega) hS hI hh) ?_
  refine az_to 0 (pc2 := 4) (lv2 := [some (az_r 34)]) (st2 := [az_i (zcc S)]) (s2 := am_up s 34 6 (0)) rfl ?_
  refine az_retI rfl rfl ?_
  exact ⟨rfl, rfl⟩
