/-! REFERENCE, 15: lines that are not written; written by program (wip/tools/zg/r15.py) -/
set_option maxRecDepth 100000 in
set_option maxHeartbeats 800000 in
theorem zs_X10_tell_n {d : Nat} {s : az_S} (hd : 5 ≤ d) {S : zR} {h : Nat} (hS : s 35 = S) (hI : zInv S h) (hh : h ≤ 10000) {zb : Int} (h_zb : az_in zb) (hn : ¬ (0 ≤ zb ∧ zb < ((zn S 0 : Nat) : Int))) : az_R d am_m_X10_tell 0 (az_ini (am_mL am_m_X10_tell) [az_r 34, az_i (zb)]) [] (s) (fun o t => o = .inl (some (az_i 0)) ∧ t = am_up s 34 6 (1)) := by
  have hz := zI_h hI hh
  have hs0 : s 35 0 = ((zn S 0 : Nat) : Int) := by rw [hS, hz.2.1.1]
  have hs1 : s 35 1 = ((zn S 1 : Nat) : Int) := by rw [hS, hz.2.1.2.1]
  have hs2 : s 35 2 = ((zn S 2 : Nat) : Int) := by rw [hS, hz.2.1.2.2]
  have hs3 : s 35 3 = S 3 := by rw [hS]
  have hs5 : s 35 5 = S 5 := by rw [hS]
  refine az_to 0 (pc2 := 0) (lv2 := [some (az_r 34), some (az_i (zb))]) (st2 := []) (s2 := s) rfl ?_
  refine az_to 3 (pc2 := 3) (lv2 := [some (az_r 34), some (az_i (zb))]) (st2 := [az_i (zb), az_r 34, az_r 34]) (s2 := s) rfl ?_
  refine az_clv (v := some (az_i (az_b (0 ≤ zb ∧ zb < ((zn S 0 : Nat) : Int))))) (t := s) (m2 := am_m_X10_isBridge) (as := [az_r 34, az_i (zb)]) (rest := [az_r 34]) 6 rfl rfl ⟨rfl, rfl⟩ (by omega) (zs_X10_isBridge (s := s) (z := zb) (by omega) hS hI hh (by first | assumption | exact ⟨by omega, by omega⟩)) ?_
  refine az_to 0 (pc2 := 6) (lv2 := [some (az_r 34), some (az_i (zb))]) (st2 := [az_i (az_b (0 ≤ zb ∧ zb < ((zn S 0 : Nat) : Int))), az_r 34]) (s2 := s) rfl ?_
  refine az_ifbn 13 9 rfl (by decide) (fun h1 => ?_) (fun h1 => ?_)
  · have h1 : 0 ≤ zb ∧ zb < ((zn S 0 : Nat) : Int) := h1
    exact absurd (show 0 ≤ zb ∧ zb < ((zn S 0 : Nat) : Int) by omega) hn
  · have h1 : ¬ (0 ≤ zb ∧ zb < ((zn S 0 : Nat) : Int)) := h1
    refine az_to 3 (pc2 := 15) (lv2 := [some (az_r 34), some (az_i (zb))]) (st2 := [az_i (1), az_i (1), az_r 34]) (s2 := s) rfl ?_
    refine az_clv (v := some (az_i (1))) (t := am_up s 34 6 (1)) (m2 := am_m_X10_isThrown) (as := [az_r 34, az_i (1), az_i (1)]) (rest := []) 18 rfl rfl ⟨rfl, rfl⟩ (by omega) (zs_X10_isThrown_t (s := s) (v := 1) (by omega) ) ?_
    refine az_to 0 (pc2 := 18) (lv2 := [some (az_r 34), some (az_i (zb))]) (st2 := [az_i (1)]) (s2 := am_up s 34 6 (1)) rfl ?_
    refine az_ifc 23 21 rfl (by decide) ⟨by decide, by decide⟩ (fun h => absurd h (by unfold az_cnd; decide)) (fun _ => ?_)
    refine az_to 1 (pc2 := 22) (lv2 := [some (az_r 34), some (az_i (zb))]) (st2 := [az_i (0)]) (s2 := am_up s 34 6 (1)) rfl ?_
    refine az_retI rfl rfl ?_
    exact ⟨rfl, rfl⟩
set_option maxRecDepth 100000 in
set_option maxHeartbeats 800000 in
theorem zs_X10_show_n {d : Nat} {s : az_S} (hd : 12 ≤ d) {S : zR} {h : Nat} (hS : s 35 = S) (hI : zInv S h) (hh : h ≤ 10000) {zf0 : Int} (h_zf0 : az_in zf0) (h0 : ∀ m f, f < 6 → ∃ E, zgd S m f 1000 E) (hn : ¬ (0 ≤ zf0 ∧ zf0 ≤ 5)) : az_R d am_m_X10_show 0 (az_ini (am_mL am_m_X10_show) [az_r 34, az_i (zf0)]) [] (s) (fun o t => o = .inl (some (az_i 0)) ∧ t = am_up s 34 6 (1)) := by
  have hz := zI_h hI hh
  have hs0 : s 35 0 = ((zn S 0 : Nat) : Int) := by rw [hS, hz.2.1.1]
  have hs1 : s 35 1 = ((zn S 1 : Nat) : Int) := by rw [hS, hz.2.1.2.1]
  have hs2 : s 35 2 = ((zn S 2 : Nat) : Int) := by rw [hS, hz.2.1.2.2]
  have hs3 : s 35 3 = S 3 := by rw [hS]
  have hs5 : s 35 5 = S 5 := by rw [hS]
  refine az_to 0 (pc2 := 0) (lv2 := [some (az_r 34), some (az_i (zf0))]) (st2 := []) (s2 := s) rfl ?_
  refine az_to 2 (pc2 := 2) (lv2 := [some (az_r 34), some (az_i (zf0))]) (st2 := [az_i (zf0), az_r 34]) (s2 := s) rfl ?_
  refine az_clv (v := some (az_i (az_b (0 ≤ zf0 ∧ zf0 ≤ 5)))) (t := s) (m2 := am_m_X10_isLand) (as := [az_i (zf0)]) (rest := [az_r 34]) 5 rfl rfl ⟨rfl, rfl⟩ (by omega) (zs_X10_isLand (s := s) (z := zf0) (by omega) (by first | assumption | exact ⟨by omega, by omega⟩)) ?_
  refine az_to 0 (pc2 := 5) (lv2 := [some (az_r 34), some (az_i (zf0))]) (st2 := [az_i (az_b (0 ≤ zf0 ∧ zf0 ≤ 5)), az_r 34]) (s2 := s) rfl ?_
  refine az_ifbn 12 8 rfl (by decide) (fun h1 => ?_) (fun h1 => ?_)
  · have h1 : 0 ≤ zf0 ∧ zf0 ≤ 5 := h1
    exact absurd (show 0 ≤ zf0 ∧ zf0 ≤ 5 by omega) hn
  · have h1 : ¬ (0 ≤ zf0 ∧ zf0 ≤ 5) := h1
    refine az_to 3 (pc2 := 14) (lv2 := [some (az_r 34), some (az_i (zf0))]) (st2 := [az_i (1), az_i (1), az_r 34]) (s2 := s) rfl ?_
    refine az_clv (v := some (az_i (1))) (t := am_up s 34 6 (1)) (m2 := am_m_X10_isThrown) (as := [az_r 34, az_i (1), az_i (1)]) (rest := []) 17 rfl rfl ⟨rfl, rfl⟩ (by omega) (zs_X10_isThrown_t (s := s) (v := 1) (by omega) ) ?_
    refine az_to 0 (pc2 := 17) (lv2 := [some (az_r 34), some (az_i (zf0))]) (st2 := [az_i (1)]) (s2 := am_up s 34 6 (1)) rfl ?_
    refine az_ifc 22 20 rfl (by decide) ⟨by decide, by decide⟩ (fun h => absurd h (by unfold az_cnd; decide)) (fun _ => ?_)
    refine az_to 1 (pc2 := 21) (lv2 := [some (az_r 34), some (az_i (zf0))]) (st2 := [az_i (0)]) (s2 := am_up s 34 6 (1)) rfl ?_
    refine az_retI rfl rfl ?_
    exact ⟨rfl, rfl⟩
