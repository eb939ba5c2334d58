/-! CLASS, 16: a command of the text is carried out; written by program (wip/tools/zg/s16.py) -/
set_option maxRecDepth 100000 in
set_option maxHeartbeats 800000 in
theorem zs_X1_kindOf {d : Nat} {s : az_S} (hd : 1 ≤ d) {c : Nat} (hc9 : c ≤ 10) : az_R d am_m_X1_kindOf 0 (az_ini (am_mL am_m_X1_kindOf) [az_r 25, az_i (((c : Nat) : Int))]) [] (s) (az_ret (some (az_i (s 27 c))) (s)) := by
  refine az_to 0 (pc2 := 0) (lv2 := [some (az_r 25), some (az_i (((c : Nat) : Int)))]) (st2 := []) (s2 := s) rfl ?_
  refine az_to 3 (pc2 := 5) (lv2 := [some (az_r 25), some (az_i (((c : Nat) : Int)))]) (st2 := [az_i (((c : Nat) : Int)), az_r 26]) (s2 := s) rfl ?_
  refine az_clv (v := some (az_i (s 27 c))) (t := s) (m2 := am_m_X5_at) (as := [az_r 26, az_i (((c : Nat) : Int))]) (rest := []) 8 rfl rfl ⟨rfl, rfl⟩ (by omega) (zs_X5_at_26 (s := s) (k := c) (by omega) (by omega)) ?_
  refine az_to 0 (pc2 := 8) (lv2 := [some (az_r 25), some (az_i (((c : Nat) : Int)))]) (st2 := [az_i (s 27 c)]) (s2 := s) rfl ?_
  refine az_retI rfl rfl ?_
  exact ⟨rfl, rfl⟩
set_option maxRecDepth 100000 in
set_option maxHeartbeats 800000 in
theorem zs_X1_number {d : Nat} {s : az_S} (hd : 1 ≤ d) {c k : Nat} (hc9 : c ≤ 10) (hk3 : k ≤ 3) : az_R d am_m_X1_number 0 (az_ini (am_mL am_m_X1_number) [az_r 25, az_i (((c : Nat) : Int)), az_i (((k : Nat) : Int))]) [] (s) (az_ret (some (az_i (s 29 ((c * 4) + k)))) (s)) := by
  refine az_to 0 (pc2 := 0) (lv2 := [some (az_r 25), some (az_i (((c : Nat) : Int))), some (az_i (((k : Nat) : Int)))]) (st2 := []) (s2 := s) rfl ?_
  refine az_to 7 (pc2 := 9) (lv2 := [some (az_r 25), some (az_i (((c : Nat) : Int))), some (az_i (((k : Nat) : Int)))]) (st2 := [az_i (((((c : Nat) : Int) * 4) + ((k : Nat) : Int))), az_r 28]) (s2 := s) rfl ?_
  refine az_clv (v := some (az_i (s 29 ((c * 4) + k)))) (t := s) (m2 := am_m_X5_at) (as := [az_r 28, az_i (((((c : Nat) : Int) * 4) + ((k : Nat) : Int)))]) (rest := []) 12 rfl rfl ⟨rfl, rfl⟩ (by omega) (zs_X5_at_28 (s := s) (k := ((c * 4) + k)) (by omega) (by omega)) ?_
  refine az_to 0 (pc2 := 12) (lv2 := [some (az_r 25), some (az_i (((c : Nat) : Int))), some (az_i (((k : Nat) : Int)))]) (st2 := [az_i (s 29 ((c * 4) + k))]) (s2 := s) rfl ?_
  refine az_retI rfl rfl ?_
  exact ⟨rfl, rfl⟩
set_option maxRecDepth 100000 in
set_option maxHeartbeats 800000 in
theorem zs_X1_count {d : Nat} {s : az_S} (hd : 0 ≤ d) {m : Nat} (hm : s 25 3 = ((m : Nat) : Int)) : az_R d am_m_X1_count 0 (az_ini (am_mL am_m_X1_count) [az_r 25]) [] (s) (az_ret (some (az_i (((m : Nat) : Int)))) (s)) := by
  refine az_to 0 (pc2 := 0) (lv2 := [some (az_r 25)]) (st2 := []) (s2 := s) rfl ?_
  refine az_to 2 (pc2 := 4) (lv2 := [some (az_r 25)]) (st2 := [az_i (s 25 3)]) (s2 := s) rfl ?_
  refine az_to 0 (pc2 := 4) (lv2 := [some (az_r 25)]) (st2 := [az_i (((m : Nat) : Int))]) (s2 := s) (by rw [show s 25 3 = ((m : Nat) : Int) from hm]; rfl) ?_
  refine az_retI rfl rfl ?_
  exact ⟨rfl, rfl⟩
set_option maxRecDepth 100000 in
set_option maxHeartbeats 800000 in
theorem zs_X1_errorAt {d : Nat} {s : az_S} (hd : 0 ≤ d)  : az_R d am_m_X1_errorAt 0 (az_ini (am_mL am_m_X1_errorAt) [az_r 25]) [] (s) (az_ret (some (az_i (s 25 5))) (s)) := by
  refine az_to 0 (pc2 := 0) (lv2 := [some (az_r 25)]) (st2 := []) (s2 := s) rfl ?_
  refine az_to 2 (pc2 := 4) (lv2 := [some (az_r 25)]) (st2 := [az_i (s 25 5)]) (s2 := s) rfl ?_
  refine az_retI rfl rfl ?_
  exact ⟨rfl, rfl⟩
set_option maxRecDepth 100000 in
set_option maxHeartbeats 800000 in
theorem zs_X0_carryOut_0 {d : Nat} {s : az_S} (hd : 5 ≤ d) {S : zR} {h : Nat} (hR : zRel (s 3) S) (hI : zInv S h) (hh : h ≤ 10000) (hh9 : h + 1 ≤ 10000) {c : Nat} (hc9 : c ≤ 9) (hk : s 27 c = 0) {za zb zc zd : Int} (h_0 : s 29 ((c * 4) + 0) = za) (h_1 : s 29 ((c * 4) + 1) = zb) (h_2 : s 29 ((c * 4) + 2) = zc) (h_3 : s 29 ((c * 4) + 3) = zd) (h_za : az_in za) (h_zb : az_in zb) (h_zc : az_in zc) (h_zd : az_in zd) : az_R d am_m_X0_carryOut 0 (az_ini (am_mL am_m_X0_carryOut) [az_r 4, az_r 25, az_i (((c : Nat) : Int))]) [] (s) (zCq s (zo_bridge S za zb zc zd)) := by
  refine az_to 0 (pc2 := 0) (lv2 := [some (az_r 4), some (az_r 25), some (az_i (((c : Nat) : Int))), none, none, none]) (st2 := []) (s2 := s) rfl ?_
  refine az_to 3 (pc2 := 3) (lv2 := [some (az_r 4), some (az_r 25), some (az_i (((c : Nat) : Int))), none, none, none]) (st2 := [az_i (0), az_i (((c : Nat) : Int)), az_r 25]) (s2 := s) rfl ?_
  refine az_clv (v := some (az_i (s 29 ((c * 4) + 0)))) (t := s) (m2 := am_m_X1_number) (as := [az_r 25, az_i (((c : Nat) : Int)), az_i (0)]) (rest := []) 6 rfl rfl ⟨rfl, rfl⟩ (by omega) (zs_X1_number (s := s) (c := c) (k := 0) (by omega) (by omega) (by omega)) ?_
  refine az_to 0 (pc2 := 6) (lv2 := [some (az_r 4), some (az_r 25), some (az_i (((c : Nat) : Int))), none, none, none]) (st2 := [az_i (s 29 ((c * 4) + 0))]) (s2 := s) rfl ?_
  refine az_to 0 (pc2 := 6) (lv2 := [some (az_r 4), some (az_r 25), some (az_i (((c : Nat) : Int))), none, none, none]) (st2 := [az_i (za)]) (s2 := s) (by rw [show s 29 ((c * 4) + 0) = za from h_0]; rfl) ?_
  refine az_to 4 (pc2 := 10) (lv2 := [some (az_r 4), some (az_r 25), some (az_i (((c : Nat) : Int))), some (az_i (za)), none, none]) (st2 := [az_i (1), az_i (((c : Nat) : Int)), az_r 25]) (s2 := s) rfl ?_
  refine az_clv (v := some (az_i (s 29 ((c * 4) + 1)))) (t := s) (m2 := am_m_X1_number) (as := [az_r 25, az_i (((c : Nat) : Int)), az_i (1)]) (rest := []) 13 rfl rfl ⟨rfl, rfl⟩ (by omega) (zs_X1_number (s := s) (c := c) (k := 1) (by omega) (by omega) (by omega)) ?_
  refine az_to 0 (pc2 := 13) (lv2 := [some (az_r 4), some (az_r 25), some (az_i (((c : Nat) : Int))), some (az_i (za)), none, none]) (st2 := [az_i (s 29 ((c * 4) + 1))]) (s2 := s) rfl ?_
  refine az_to 0 (pc2 := 13) (lv2 := [some (az_r 4), some (az_r 25), some (az_i (((c : Nat) : Int))), some (az_i (za)), none, none]) (st2 := [az_i (zb)]) (s2 := s) (by rw [show s 29 ((c * 4) + 1) = zb from h_1]; rfl) ?_
  refine az_to 4 (pc2 := 18) (lv2 := [some (az_r 4), some (az_r 25), some (az_i (((c : Nat) : Int))), some (az_i (za)), some (az_i (zb)), none]) (st2 := [az_i (2), az_i (((c : Nat) : Int)), az_r 25]) (s2 := s) rfl ?_
  refine az_clv (v := some (az_i (s 29 ((c * 4) + 2)))) (t := s) (m2 := am_m_X1_number) (as := [az_r 25, az_i (((c : Nat) : Int)), az_i (2)]) (rest := []) 21 rfl rfl ⟨rfl, rfl⟩ (by omega) (zs_X1_number (s := s) (c := c) (k := 2) (by omega) (by omega) (by omega)) ?_
  refine az_to 0 (pc2 := 21) (lv2 := [some (az_r 4), some (az_r 25), some (az_i (((c : Nat) : Int))), some (az_i (za)), some (az_i (zb)), none]) (st2 := [az_i (s 29 ((c * 4) + 2))]) (s2 := s) rfl ?_
  refine az_to 0 (pc2 := 21) (lv2 := [some (az_r 4), some (az_r 25), some (az_i (((c : Nat) : Int))), some (az_i (za)), some (az_i (zb)), none]) (st2 := [az_i (zc)]) (s2 := s) (by rw [show s 29 ((c * 4) + 2) = zc from h_2]; rfl) ?_
  refine az_to 3 (pc2 := 25) (lv2 := [some (az_r 4), some (az_r 25), some (az_i (((c : Nat) : Int))), some (az_i (za)), some (az_i (zb)), some (az_i (zc))]) (st2 := [az_i (((c : Nat) : Int)), az_r 25]) (s2 := s) rfl ?_
  refine az_clv (v := some (az_i (s 27 c))) (t := s) (m2 := am_m_X1_kindOf) (as := [az_r 25, az_i (((c : Nat) : Int))]) (rest := []) 28 rfl rfl ⟨rfl, rfl⟩ (by omega) (zs_X1_kindOf (s := s) (c := c) (by omega) (by omega)) ?_
  refine az_to 0 (pc2 := 28) (lv2 := [some (az_r 4), some (az_r 25), some (az_i (((c : Nat) : Int))), some (az_i (za)), some (az_i (zb)), some (az_i (zc))]) (st2 := [az_i (s 27 c)]) (s2 := s) rfl ?_
  refine az_to 0 (pc2 := 28) (lv2 := [some (az_r 4), some (az_r 25), some (az_i (((c : Nat) : Int))), some (az_i (za)), some (az_i (zb)), some (az_i (zc))]) (st2 := [az_i (0)]) (s2 := s) (by rw [show s 27 c = 0 from hk]; rfl) ?_
  refine az_swc 96 rfl ⟨by decide, by decide⟩ (by decide) (by rfl) (by decide) ?_
  refine az_to 7 (pc2 := 105) (lv2 := [some (az_r 4), some (az_r 25), some (az_i (((c : Nat) : Int))), some (az_i (za)), some (az_i (zb)), some (az_i (zc))]) (st2 := [az_i (3), az_i (((c : Nat) : Int)), az_r 25, az_i (zc), az_i (zb), az_i (za), az_r 4]) (s2 := s) rfl ?_
  refine az_clv (v := some (az_i (s 29 ((c * 4) + 3)))) (t := s) (m2 := am_m_X1_number) (as := [az_r 25, az_i (((c : Nat) : Int)), az_i (3)]) (rest := [az_i (zc), az_i (zb), az_i (za), az_r 4]) 108 rfl rfl ⟨rfl, rfl⟩ (by omega) (zs_X1_number (s := s) (c := c) (k := 3) (by omega) (by omega) (by omega)) ?_
  refine az_to 0 (pc2 := 108) (lv2 := [some (az_r 4), some (az_r 25), some (az_i (((c : Nat) : Int))), some (az_i (za)), some (az_i (zb)), some (az_i (zc))]) (st2 := [az_i (s 29 ((c * 4) + 3)), az_i (zc), az_i (zb), az_i (za), az_r 4]) (s2 := s) rfl ?_
  refine az_to 0 (pc2 := 108) (lv2 := [some (az_r 4), some (az_r 25), some (az_i (((c : Nat) : Int))), some (az_i (za)), some (az_i (zb)), some (az_i (zc))]) (st2 := [az_i (zd), az_i (zc), az_i (zb), az_i (za), az_r 4]) (s2 := s) (by rw [show s 29 ((c * 4) + 3) = zd from h_3]; rfl) ?_
  refine az_cl (m2 := am_m_X0_addBridge) (as := [az_r 4, az_i (za), az_i (zb), az_i (zc), az_i (zd)]) (rest := []) 111 rfl rfl ⟨rfl, rfl⟩ (by omega) (zs_X0_addBridge (s := s) (zo := za) (zp := zb) (zq := zc) (zr := zd) (by omega) hR hI hh (by first | assumption | exact ⟨by omega, by omega⟩) (by first | assumption | exact ⟨by omega, by omega⟩) (by first | assumption | exact ⟨by omega, by omega⟩) (by first | assumption | exact ⟨by omega, by omega⟩)) (fun v9 u q9 => ?_) (fun E9 u q9 => by cases q9.1)
  obtain ⟨o9, hu⟩ := q9
  cases o9
  refine az_retA rfl rfl ?_
  exact ⟨rfl, hu⟩
set_option maxRecDepth 100000 in
set_option maxHeartbeats 800000 in
theorem zs_X0_carryOut_1 {d : Nat} {s : az_S} (hd : 5 ≤ d) {S : zR} {h : Nat} (hR : zRel (s 3) S) (hI : zInv S h) (hh : h ≤ 10000) (hh9 : h + 1 ≤ 10000) {c : Nat} (hc9 : c ≤ 9) (hk : s 27 c = 1) {za zb zc zd : Int} (h_0 : s 29 ((c * 4) + 0) = za) (h_1 : s 29 ((c * 4) + 1) = zb) (h_2 : s 29 ((c * 4) + 2) = zc) (h_3 : s 29 ((c * 4) + 3) = zd)  : az_R d am_m_X0_carryOut 0 (az_ini (am_mL am_m_X0_carryOut) [az_r 4, az_r 25, az_i (((c : Nat) : Int))]) [] (s) (zCq s (zo_troll S )) := by
  refine az_to 0 (pc2 := 0) (lv2 := [some (az_r 4), some (az_r 25), some (az_i (((c : Nat) : Int))), none, none, none]) (st2 := []) (s2 := s) rfl ?_
  refine az_to 3 (pc2 := 3) (lv2 := [some (az_r 4), some (az_r 25), some (az_i (((c : Nat) : Int))), none, none, none]) (st2 := [az_i (0), az_i (((c : Nat) : Int)), az_r 25]) (s2 := s) rfl ?_
  refine az_clv (v := some (az_i (s 29 ((c * 4) + 0)))) (t := s) (m2 := am_m_X1_number) (as := [az_r 25, az_i (((c : Nat) : Int)), az_i (0)]) (rest := []) 6 rfl rfl ⟨rfl, rfl⟩ (by omega) (zs_X1_number (s := s) (c := c) (k := 0) (by omega) (by omega) (by omega)) ?_
  refine az_to 0 (pc2 := 6) (lv2 := [some (az_r 4), some (az_r 25), some (az_i (((c : Nat) : Int))), none, none, none]) (st2 := [az_i (s 29 ((c * 4) + 0))]) (s2 := s) rfl ?_
  refine az_to 0 (pc2 := 6) (lv2 := [some (az_r 4), some (az_r 25), some (az_i (((c : Nat) : Int))), none, none, none]) (st2 := [az_i (za)]) (s2 := s) (by rw [show s 29 ((c * 4) + 0) = za from h_0]; rfl) ?_
  refine az_to 4 (pc2 := 10) (lv2 := [some (az_r 4), some (az_r 25), some (az_i (((c : Nat) : Int))), some (az_i (za)), none, none]) (st2 := [az_i (1), az_i (((c : Nat) : Int)), az_r 25]) (s2 := s) rfl ?_
  refine az_clv (v := some (az_i (s 29 ((c * 4) + 1)))) (t := s) (m2 := am_m_X1_number) (as := [az_r 25, az_i (((c : Nat) : Int)), az_i (1)]) (rest := []) 13 rfl rfl ⟨rfl, rfl⟩ (by omega) (zs_X1_number (s := s) (c := c) (k := 1) (by omega) (by omega) (by omega)) ?_
  refine az_to 0 (pc2 := 13) (lv2 := [some (az_r 4), some (az_r 25), some (az_i (((c : Nat) : Int))), some (az_i (za)), none, none]) (st2 := [az_i (s 29 ((c * 4) + 1))]) (s2 := s) rfl ?_
  refine az_to 0 (pc2 := 13) (lv2 := [some (az_r 4), some (az_r 25), some (az_i (((c : Nat) : Int))), some (az_i (za)), none, none]) (st2 := [az_i (zb)]) (s2 := s) (by rw [show s 29 ((c * 4) + 1) = zb from h_1]; rfl) ?_
  refine az_to 4 (pc2 := 18) (lv2 := [some (az_r 4), some (az_r 25), some (az_i (((c : Nat) : Int))), some (az_i (za)), some (az_i (zb)), none]) (st2 := [az_i (2), az_i (((c : Nat) : Int)), az_r 25]) (s2 := s) rfl ?_
  refine az_clv (v := some (az_i (s 29 ((c * 4) + 2)))) (t := s) (m2 := am_m_X1_number) (as := [az_r 25, az_i (((c : Nat) : Int)), az_i (2)]) (rest := []) 21 rfl rfl ⟨rfl, rfl⟩ (by omega) (zs_X1_number (s := s) (c := c) (k := 2) (by omega) (by omega) (by omega)) ?_
  refine az_to 0 (pc2 := 21) (lv2 := [some (az_r 4), some (az_r 25), some (az_i (((c : Nat) : Int))), some (az_i (za)), some (az_i (zb)), none]) (st2 := [az_i (s 29 ((c * 4) + 2))]) (s2 := s) rfl ?_
  refine az_to 0 (pc2 := 21) (lv2 := [some (az_r 4), some (az_r 25), some (az_i (((c : Nat) : Int))), some (az_i (za)), some (az_i (zb)), none]) (st2 := [az_i (zc)]) (s2 := s) (by rw [show s 29 ((c * 4) + 2) = zc from h_2]; rfl) ?_
  refine az_to 3 (pc2 := 25) (lv2 := [some (az_r 4), some (az_r 25), some (az_i (((c : Nat) : Int))), some (az_i (za)), some (az_i (zb)), some (az_i (zc))]) (st2 := [az_i (((c : Nat) : Int)), az_r 25]) (s2 := s) rfl ?_
  refine az_clv (v := some (az_i (s 27 c))) (t := s) (m2 := am_m_X1_kindOf) (as := [az_r 25, az_i (((c : Nat) : Int))]) (rest := []) 28 rfl rfl ⟨rfl, rfl⟩ (by omega) (zs_X1_kindOf (s := s) (c := c) (by omega) (by omega)) ?_
  refine az_to 0 (pc2 := 28) (lv2 := [some (az_r 4), some (az_r 25), some (az_i (((c : Nat) : Int))), some (az_i (za)), some (az_i (zb)), some (az_i (zc))]) (st2 := [az_i (s 27 c)]) (s2 := s) rfl ?_
  refine az_to 0 (pc2 := 28) (lv2 := [some (az_r 4), some (az_r 25), some (az_i (((c : Nat) : Int))), some (az_i (za)), some (az_i (zb)), some (az_i (zc))]) (st2 := [az_i (1)]) (s2 := s) (by rw [show s 27 c = 1 from hk]; rfl) ?_
  refine az_swc 112 rfl ⟨by decide, by decide⟩ (by decide) (by rfl) (by decide) ?_
  refine az_to 1 (pc2 := 113) (lv2 := [some (az_r 4), some (az_r 25), some (az_i (((c : Nat) : Int))), some (az_i (za)), some (az_i (zb)), some (az_i (zc))]) (st2 := [az_r 4]) (s2 := s) rfl ?_
  refine az_cl (m2 := am_m_X0_addTroll) (as := [az_r 4]) (rest := []) 116 rfl rfl ⟨rfl, rfl⟩ (by omega) (zs_X0_addTroll (s := s)  (by omega) hR hI hh) (fun v9 u q9 => ?_) (fun E9 u q9 => by cases q9.1)
  obtain ⟨o9, hu⟩ := q9
  cases o9
  refine az_retA rfl rfl ?_
  exact ⟨rfl, hu⟩
set_option maxRecDepth 100000 in
set_option maxHeartbeats 800000 in
theorem zs_X0_carryOut_2 {d : Nat} {s : az_S} (hd : 5 ≤ d) {S : zR} {h : Nat} (hR : zRel (s 3) S) (hI : zInv S h) (hh : h ≤ 10000) (hh9 : h + 1 ≤ 10000) {c : Nat} (hc9 : c ≤ 9) (hk : s 27 c = 2) {za zb zc zd : Int} (h_0 : s 29 ((c * 4) + 0) = za) (h_1 : s 29 ((c * 4) + 1) = zb) (h_2 : s 29 ((c * 4) + 2) = zc) (h_3 : s 29 ((c * 4) + 3) = zd) (h_za : az_in za) (h_zb : az_in zb) : az_R d am_m_X0_carryOut 0 (az_ini (am_mL am_m_X0_carryOut) [az_r 4, az_r 25, az_i (((c : Nat) : Int))]) [] (s) (zCq s (zo_goat S za zb)) := by
  refine az_to 0 (pc2 := 0) (lv2 := [some (az_r 4), some (az_r 25), some (az_i (((c : Nat) : Int))), none, none, none]) (st2 := []) (s2 := s) rfl ?_
  refine az_to 3 (pc2 := 3) (lv2 := [some (az_r 4), some (az_r 25), some (az_i (((c : Nat) : Int))), none, none, none]) (st2 := [az_i (0), az_i (((c : Nat) : Int)), az_r 25]) (s2 := s) rfl ?_
  refine az_clv (v := some (az_i (s 29 ((c * 4) + 0)))) (t := s) (m2 := am_m_X1_number) (as := [az_r 25, az_i (((c : Nat) : Int)), az_i (0)]) (rest := []) 6 rfl rfl ⟨rfl, rfl⟩ (by omega) (zs_X1_number (s := s) (c := c) (k := 0) (by omega) (by omega) (by omega)) ?_
  refine az_to 0 (pc2 := 6) (lv2 := [some (az_r 4), some (az_r 25), some (az_i (((c : Nat) : Int))), none, none, none]) (st2 := [az_i (s 29 ((c * 4) + 0))]) (s2 := s) rfl ?_
  refine az_to 0 (pc2 := 6) (lv2 := [some (az_r 4), some (az_r 25), some (az_i (((c : Nat) : Int))), none, none, none]) (st2 := [az_i (za)]) (s2 := s) (by rw [show s 29 ((c * 4) + 0) = za from h_0]; rfl) ?_
  refine az_to 4 (pc2 := 10) (lv2 := [some (az_r 4), some (az_r 25), some (az_i (((c : Nat) : Int))), some (az_i (za)), none, none]) (st2 := [az_i (1), az_i (((c : Nat) : Int)), az_r 25]) (s2 := s) rfl ?_
  refine az_clv (v := some (az_i (s 29 ((c * 4) + 1)))) (t := s) (m2 := am_m_X1_number) (as := [az_r 25, az_i (((c : Nat) : Int)), az_i (1)]) (rest := []) 13 rfl rfl ⟨rfl, rfl⟩ (by omega) (zs_X1_number (s := s) (c := c) (k := 1) (by omega) (by omega) (by omega)) ?_
  refine az_to 0 (pc2 := 13) (lv2 := [some (az_r 4), some (az_r 25), some (az_i (((c : Nat) : Int))), some (az_i (za)), none, none]) (st2 := [az_i (s 29 ((c * 4) + 1))]) (s2 := s) rfl ?_
  refine az_to 0 (pc2 := 13) (lv2 := [some (az_r 4), some (az_r 25), some (az_i (((c : Nat) : Int))), some (az_i (za)), none, none]) (st2 := [az_i (zb)]) (s2 := s) (by rw [show s 29 ((c * 4) + 1) = zb from h_1]; rfl) ?_
  refine az_to 4 (pc2 := 18) (lv2 := [some (az_r 4), some (az_r 25), some (az_i (((c : Nat) : Int))), some (az_i (za)), some (az_i (zb)), none]) (st2 := [az_i (2), az_i (((c : Nat) : Int)), az_r 25]) (s2 := s) rfl ?_
  refine az_clv (v := some (az_i (s 29 ((c * 4) + 2)))) (t := s) (m2 := am_m_X1_number) (as := [az_r 25, az_i (((c : Nat) : Int)), az_i (2)]) (rest := []) 21 rfl rfl ⟨rfl, rfl⟩ (by omega) (zs_X1_number (s := s) (c := c) (k := 2) (by omega) (by omega) (by omega)) ?_
  refine az_to 0 (pc2 := 21) (lv2 := [some (az_r 4), some (az_r 25), some (az_i (((c : Nat) : Int))), some (az_i (za)), some (az_i (zb)), none]) (st2 := [az_i (s 29 ((c * 4) + 2))]) (s2 := s) rfl ?_
  refine az_to 0 (pc2 := 21) (lv2 := [some (az_r 4), some (az_r 25), some (az_i (((c : Nat) : Int))), some (az_i (za)), some (az_i (zb)), none]) (st2 := [az_i (zc)]) (s2 := s) (by rw [show s 29 ((c * 4) + 2) = zc from h_2]; rfl) ?_
  refine az_to 3 (pc2 := 25) (lv2 := [some (az_r 4), some (az_r 25), some (az_i (((c : Nat) : Int))), some (az_i (za)), some (az_i (zb)), some (az_i (zc))]) (st2 := [az_i (((c : Nat) : Int)), az_r 25]) (s2 := s) rfl ?_
  refine az_clv (v := some (az_i (s 27 c))) (t := s) (m2 := am_m_X1_kindOf) (as := [az_r 25, az_i (((c : Nat) : Int))]) (rest := []) 28 rfl rfl ⟨rfl, rfl⟩ (by omega) (zs_X1_kindOf (s := s) (c := c) (by omega) (by omega)) ?_
  refine az_to 0 (pc2 := 28) (lv2 := [some (az_r 4), some (az_r 25), some (az_i (((c : Nat) : Int))), some (az_i (za)), some (az_i (zb)), some (az_i (zc))]) (st2 := [az_i (s 27 c)]) (s2 := s) rfl ?_
  refine az_to 0 (pc2 := 28) (lv2 := [some (az_r 4), some (az_r 25), some (az_i (((c : Nat) : Int))), some (az_i (za)), some (az_i (zb)), some (az_i (zc))]) (st2 := [az_i (2)]) (s2 := s) (by rw [show s 27 c = 2 from hk]; rfl) ?_
  refine az_swc 117 rfl ⟨by decide, by decide⟩ (by decide) (by rfl) (by decide) ?_
  refine az_to 3 (pc2 := 121) (lv2 := [some (az_r 4), some (az_r 25), some (az_i (((c : Nat) : Int))), some (az_i (za)), some (az_i (zb)), some (az_i (zc))]) (st2 := [az_i (zb), az_i (za), az_r 4]) (s2 := s) rfl ?_
  refine az_cl (m2 := am_m_X0_addGoat) (as := [az_r 4, az_i (za), az_i (zb)]) (rest := []) 124 rfl rfl ⟨rfl, rfl⟩ (by omega) (zs_X0_addGoat (s := s) (zl := za) (zc := zb) (by omega) hR hI hh (by first | assumption | exact ⟨by omega, by omega⟩) (by first | assumption | exact ⟨by omega, by omega⟩)) (fun v9 u q9 => ?_) (fun E9 u q9 => by cases q9.1)
  obtain ⟨o9, hu⟩ := q9
  cases o9
  refine az_retA rfl rfl ?_
  exact ⟨rfl, hu⟩
set_option maxRecDepth 100000 in
set_option maxHeartbeats 800000 in
theorem zs_X0_carryOut_3 {d : Nat} {s : az_S} (hd : 5 ≤ d) {S : zR} {h : Nat} (hR : zRel (s 3) S) (hI : zInv S h) (hh : h ≤ 10000) (hh9 : h + 1 ≤ 10000) {c : Nat} (hc9 : c ≤ 9) (hk : s 27 c = 3) {za zb zc zd : Int} (h_0 : s 29 ((c * 4) + 0) = za) (h_1 : s 29 ((c * 4) + 1) = zb) (h_2 : s 29 ((c * 4) + 2) = zc) (h_3 : s 29 ((c * 4) + 3) = zd) (h_za : az_in za) (h_zb : az_in zb) : az_R d am_m_X0_carryOut 0 (az_ini (am_mL am_m_X0_carryOut) [az_r 4, az_r 25, az_i (((c : Nat) : Int))]) [] (s) (zCq s (zo_post S za zb)) := by
  refine az_to 0 (pc2 := 0) (lv2 := [some (az_r 4), some (az_r 25), some (az_i (((c : Nat) : Int))), none, none, none]) (st2 := []) (s2 := s) rfl ?_
  refine az_to 3 (pc2 := 3) (lv2 := [some (az_r 4), some (az_r 25), some (az_i (((c : Nat) : Int))), none, none, none]) (st2 := [az_i (0), az_i (((c : Nat) : Int)), az_r 25]) (s2 := s) rfl ?_
  refine az_clv (v := some (az_i (s 29 ((c * 4) + 0)))) (t := s) (m2 := am_m_X1_number) (as := [az_r 25, az_i (((c : Nat) : Int)), az_i (0)]) (rest := []) 6 rfl rfl ⟨rfl, rfl⟩ (by omega) (zs_X1_number (s := s) (c := c) (k := 0) (by omega) (by omega) (by omega)) ?_
  refine az_to 0 (pc2 := 6) (lv2 := [some (az_r 4), some (az_r 25), some (az_i (((c : Nat) : Int))), none, none, none]) (st2 := [az_i (s 29 ((c * 4) + 0))]) (s2 := s) rfl ?_
  refine az_to 0 (pc2 := 6) (lv2 := [some (az_r 4), some (az_r 25), some (az_i (((c : Nat) : Int))), none, none, none]) (st2 := [az_i (za)]) (s2 := s) (by rw [show s 29 ((c * 4) + 0) = za from h_0]; rfl) ?_
  refine az_to 4 (pc2 := 10) (lv2 := [some (az_r 4), some (az_r 25), some (az_i (((c : Nat) : Int))), some (az_i (za)), none, none]) (st2 := [az_i (1), az_i (((c : Nat) : Int)), az_r 25]) (s2 := s) rfl ?_
  refine az_clv (v := some (az_i (s 29 ((c * 4) + 1)))) (t := s) (m2 := am_m_X1_number) (as := [az_r 25, az_i (((c : Nat) : Int)), az_i (1)]) (rest := []) 13 rfl rfl ⟨rfl, rfl⟩ (by omega) (zs_X1_number (s := s) (c := c) (k := 1) (by omega) (by omega) (by omega)) ?_
  refine az_to 0 (pc2 := 13) (lv2 := [some (az_r 4), some (az_r 25), some (az_i (((c : Nat) : Int))), some (az_i (za)), none, none]) (st2 := [az_i (s 29 ((c * 4) + 1))]) (s2 := s) rfl ?_
  refine az_to 0 (pc2 := 13) (lv2 := [some (az_r 4), some (az_r 25), some (az_i (((c : Nat) : Int))), some (az_i (za)), none, none]) (st2 := [az_i (zb)]) (s2 := s) (by rw [show s 29 ((c * 4) + 1) = zb from h_1]; rfl) ?_
  refine az_to 4 (pc2 := 18) (lv2 := [some (az_r 4), some (az_r 25), some (az_i (((c : Nat) : Int))), some (az_i (za)), some (az_i (zb)), none]) (st2 := [az_i (2), az_i (((c : Nat) : Int)), az_r 25]) (s2 := s) rfl ?_
  refine az_clv (v := some (az_i (s 29 ((c * 4) + 2)))) (t := s) (m2 := am_m_X1_number) (as := [az_r 25, az_i (((c : Nat) : Int)), az_i (2)]) (rest := []) 21 rfl rfl ⟨rfl, rfl⟩ (by omega) (zs_X1_number (s := s) (c := c) (k := 2) (by omega) (by omega) (by omega)) ?_
  refine az_to 0 (pc2 := 21) (lv2 := [some (az_r 4), some (az_r 25), some (az_i (((c : Nat) : Int))), some (az_i (za)), some (az_i (zb)), none]) (st2 := [az_i (s 29 ((c * 4) + 2))]) (s2 := s) rfl ?_
  refine az_to 0 (pc2 := 21) (lv2 := [some (az_r 4), some (az_r 25), some (az_i (((c : Nat) : Int))), some (az_i (za)), some (az_i (zb)), none]) (st2 := [az_i (zc)]) (s2 := s) (by rw [show s 29 ((c * 4) + 2) = zc from h_2]; rfl) ?_
  refine az_to 3 (pc2 := 25) (lv2 := [some (az_r 4), some (az_r 25), some (az_i (((c : Nat) : Int))), some (az_i (za)), some (az_i (zb)), some (az_i (zc))]) (st2 := [az_i (((c : Nat) : Int)), az_r 25]) (s2 := s) rfl ?_
  refine az_clv (v := some (az_i (s 27 c))) (t := s) (m2 := am_m_X1_kindOf) (as := [az_r 25, az_i (((c : Nat) : Int))]) (rest := []) 28 rfl rfl ⟨rfl, rfl⟩ (by omega) (zs_X1_kindOf (s := s) (c := c) (by omega) (by omega)) ?_
  refine az_to 0 (pc2 := 28) (lv2 := [some (az_r 4), some (az_r 25), some (az_i (((c : Nat) : Int))), some (az_i (za)), some (az_i (zb)), some (az_i (zc))]) (st2 := [az_i (s 27 c)]) (s2 := s) rfl ?_
  refine az_to 0 (pc2 := 28) (lv2 := [some (az_r 4), some (az_r 25), some (az_i (((c : Nat) : Int))), some (az_i (za)), some (az_i (zb)), some (az_i (zc))]) (st2 := [az_i (3)]) (s2 := s) (by rw [show s 27 c = 3 from hk]; rfl) ?_
  refine az_swc 125 rfl ⟨by decide, by decide⟩ (by decide) (by rfl) (by decide) ?_
  refine az_to 3 (pc2 := 129) (lv2 := [some (az_r 4), some (az_r 25), some (az_i (((c : Nat) : Int))), some (az_i (za)), some (az_i (zb)), some (az_i (zc))]) (st2 := [az_i (zb), az_i (za), az_r 4]) (s2 := s) rfl ?_
  refine az_cl (m2 := am_m_X0_postTroll) (as := [az_r 4, az_i (za), az_i (zb)]) (rest := []) 132 rfl rfl ⟨rfl, rfl⟩ (by omega) (zs_X0_postTroll (s := s) (zt := za) (zb := zb) (by omega) hR hI hh (by first | assumption | exact ⟨by omega, by omega⟩) (by first | assumption | exact ⟨by omega, by omega⟩)) (fun v9 u q9 => ?_) (fun E9 u q9 => by cases q9.1)
  obtain ⟨o9, hu⟩ := q9
  cases o9
  refine az_retA rfl rfl ?_
  exact ⟨rfl, hu⟩
set_option maxRecDepth 100000 in
set_option maxHeartbeats 800000 in
theorem zs_X0_carryOut_4 {d : Nat} {s : az_S} (hd : 5 ≤ d) {S : zR} {h : Nat} (hR : zRel (s 3) S) (hI : zInv S h) (hh : h ≤ 10000) (hh9 : h + 1 ≤ 10000) {c : Nat} (hc9 : c ≤ 9) (hk : s 27 c = 4) {za zb zc zd : Int} (h_0 : s 29 ((c * 4) + 0) = za) (h_1 : s 29 ((c * 4) + 1) = zb) (h_2 : s 29 ((c * 4) + 2) = zc) (h_3 : s 29 ((c * 4) + 3) = zd) (h_za : az_in za) (h_zb : az_in zb) : az_R d am_m_X0_carryOut 0 (az_ini (am_mL am_m_X0_carryOut) [az_r 4, az_r 25, az_i (((c : Nat) : Int))]) [] (s) (zCq s (zo_cross S za zb)) := by
  refine az_to 0 (pc2 := 0) (lv2 := [some (az_r 4), some (az_r 25), some (az_i (((c : Nat) : Int))), none, none, none]) (st2 := []) (s2 := s) rfl ?_
  refine az_to 3 (pc2 := 3) (lv2 := [some (az_r 4), some (az_r 25), some (az_i (((c : Nat) : Int))), none, none, none]) (st2 := [az_i (0), az_i (((c : Nat) : Int)), az_r 25]) (s2 := s) rfl ?_
  refine az_clv (v := some (az_i (s 29 ((c * 4) + 0)))) (t := s) (m2 := am_m_X1_number) (as := [az_r 25, az_i (((c : Nat) : Int)), az_i (0)]) (rest := []) 6 rfl rfl ⟨rfl, rfl⟩ (by omega) (zs_X1_number (s := s) (c := c) (k := 0) (by omega) (by omega) (by omega)) ?_
  refine az_to 0 (pc2 := 6) (lv2 := [some (az_r 4), some (az_r 25), some (az_i (((c : Nat) : Int))), none, none, none]) (st2 := [az_i (s 29 ((c * 4) + 0))]) (s2 := s) rfl ?_
  refine az_to 0 (pc2 := 6) (lv2 := [some (az_r 4), some (az_r 25), some (az_i (((c : Nat) : Int))), none, none, none]) (st2 := [az_i (za)]) (s2 := s) (by rw [show s 29 ((c * 4) + 0) = za from h_0]; rfl) ?_
  refine az_to 4 (pc2 := 10) (lv2 := [some (az_r 4), some (az_r 25), some (az_i (((c : Nat) : Int))), some (az_i (za)), none, none]) (st2 := [az_i (1), az_i (((c : Nat) : Int)), az_r 25]) (s2 := s) rfl ?_
  refine az_clv (v := some (az_i (s 29 ((c * 4) + 1)))) (t := s) (m2 := am_m_X1_number) (as := [az_r 25, az_i (((c : Nat) : Int)), az_i (1)]) (rest := []) 13 rfl rfl ⟨rfl, rfl⟩ (by omega) (zs_X1_number (s := s) (c := c) (k := 1) (by omega) (by omega) (by omega)) ?_
  refine az_to 0 (pc2 := 13) (lv2 := [some (az_r 4), some (az_r 25), some (az_i (((c : Nat) : Int))), some (az_i (za)), none, none]) (st2 := [az_i (s 29 ((c * 4) + 1))]) (s2 := s) rfl ?_
  refine az_to 0 (pc2 := 13) (lv2 := [some (az_r 4), some (az_r 25), some (az_i (((c : Nat) : Int))), some (az_i (za)), none, none]) (st2 := [az_i (zb)]) (s2 := s) (by rw [show s 29 ((c * 4) + 1) = zb from h_1]; rfl) ?_
  refine az_to 4 (pc2 := 18) (lv2 := [some (az_r 4), some (az_r 25), some (az_i (((c : Nat) : Int))), some (az_i (za)), some (az_i (zb)), none]) (st2 := [az_i (2), az_i (((c : Nat) : Int)), az_r 25]) (s2 := s) rfl ?_
  refine az_clv (v := some (az_i (s 29 ((c * 4) + 2)))) (t := s) (m2 := am_m_X1_number) (as := [az_r 25, az_i (((c : Nat) : Int)), az_i (2)]) (rest := []) 21 rfl rfl ⟨rfl, rfl⟩ (by omega) (zs_X1_number (s := s) (c := c) (k := 2) (by omega) (by omega) (by omega)) ?_
  refine az_to 0 (pc2 := 21) (lv2 := [some (az_r 4), some (az_r 25), some (az_i (((c : Nat) : Int))), some (az_i (za)), some (az_i (zb)), none]) (st2 := [az_i (s 29 ((c * 4) + 2))]) (s2 := s) rfl ?_
  refine az_to 0 (pc2 := 21) (lv2 := [some (az_r 4), some (az_r 25), some (az_i (((c : Nat) : Int))), some (az_i (za)), some (az_i (zb)), none]) (st2 := [az_i (zc)]) (s2 := s) (by rw [show s 29 ((c * 4) + 2) = zc from h_2]; rfl) ?_
  refine az_to 3 (pc2 := 25) (lv2 := [some (az_r 4), some (az_r 25), some (az_i (((c : Nat) : Int))), some (az_i (za)), some (az_i (zb)), some (az_i (zc))]) (st2 := [az_i (((c : Nat) : Int)), az_r 25]) (s2 := s) rfl ?_
  refine az_clv (v := some (az_i (s 27 c))) (t := s) (m2 := am_m_X1_kindOf) (as := [az_r 25, az_i (((c : Nat) : Int))]) (rest := []) 28 rfl rfl ⟨rfl, rfl⟩ (by omega) (zs_X1_kindOf (s := s) (c := c) (by omega) (by omega)) ?_
  refine az_to 0 (pc2 := 28) (lv2 := [some (az_r 4), some (az_r 25), some (az_i (((c : Nat) : Int))), some (az_i (za)), some (az_i (zb)), some (az_i (zc))]) (st2 := [az_i (s 27 c)]) (s2 := s) rfl ?_
  refine az_to 0 (pc2 := 28) (lv2 := [some (az_r 4), some (az_r 25), some (az_i (((c : Nat) : Int))), some (az_i (za)), some (az_i (zb)), some (az_i (zc))]) (st2 := [az_i (4)]) (s2 := s) (by rw [show s 27 c = 4 from hk]; rfl) ?_
  refine az_swc 133 rfl ⟨by decide, by decide⟩ (by decide) (by rfl) (by decide) ?_
  refine az_to 3 (pc2 := 137) (lv2 := [some (az_r 4), some (az_r 25), some (az_i (((c : Nat) : Int))), some (az_i (za)), some (az_i (zb)), some (az_i (zc))]) (st2 := [az_i (zb), az_i (za), az_r 4]) (s2 := s) rfl ?_
  refine az_cl (m2 := am_m_X0_crossBridge) (as := [az_r 4, az_i (za), az_i (zb)]) (rest := []) 140 rfl rfl ⟨rfl, rfl⟩ (by omega) (zs_X0_crossBridge (s := s) (zg := za) (zb := zb) (by omega) hR hI hh (by first | assumption | exact ⟨by omega, by omega⟩) (by first | assumption | exact ⟨by omega, by omega⟩) (by omega)) (fun v9 u q9 => ?_) (fun E9 u q9 => by cases q9.1)
  obtain ⟨o9, hu⟩ := q9
  cases o9
  refine az_retA rfl rfl ?_
  exact ⟨rfl, hu⟩
set_option maxRecDepth 100000 in
set_option maxHeartbeats 800000 in
theorem zs_X0_carryOut_5 {d : Nat} {s : az_S} (hd : 5 ≤ d) {S : zR} {h : Nat} (hR : zRel (s 3) S) (hI : zInv S h) (hh : h ≤ 10000) (hh9 : h + 1 ≤ 10000) {c : Nat} (hc9 : c ≤ 9) (hk : s 27 c = 5) {za zb zc zd : Int} (h_0 : s 29 ((c * 4) + 0) = za) (h_1 : s 29 ((c * 4) + 1) = zb) (h_2 : s 29 ((c * 4) + 2) = zc) (h_3 : s 29 ((c * 4) + 3) = zd) (h_za : az_in za) (h_zb : az_in zb) : az_R d am_m_X0_carryOut 0 (az_ini (am_mL am_m_X0_carryOut) [az_r 4, az_r 25, az_i (((c : Nat) : Int))]) [] (s) (zCq s (zo_dispute S za zb)) := by
  refine az_to 0 (pc2 := 0) (lv2 := [some (az_r 4), some (az_r 25), some (az_i (((c : Nat) : Int))), none, none, none]) (st2 := []) (s2 := s) rfl ?_
  refine az_to 3 (pc2 := 3) (lv2 := [some (az_r 4), some (az_r 25), some (az_i (((c : Nat) : Int))), none, none, none]) (st2 := [az_i (0), az_i (((c : Nat) : Int)), az_r 25]) (s2 := s) rfl ?_
  refine az_clv (v := some (az_i (s 29 ((c * 4) + 0)))) (t := s) (m2 := am_m_X1_number) (as := [az_r 25, az_i (((c : Nat) : Int)), az_i (0)]) (rest := []) 6 rfl rfl ⟨rfl, rfl⟩ (by omega) (zs_X1_number (s := s) (c := c) (k := 0) (by omega) (by omega) (by omega)) ?_
  refine az_to 0 (pc2 := 6) (lv2 := [some (az_r 4), some (az_r 25), some (az_i (((c : Nat) : Int))), none, none, none]) (st2 := [az_i (s 29 ((c * 4) + 0))]) (s2 := s) rfl ?_
  refine az_to 0 (pc2 := 6) (lv2 := [some (az_r 4), some (az_r 25), some (az_i (((c : Nat) : Int))), none, none, none]) (st2 := [az_i (za)]) (s2 := s) (by rw [show s 29 ((c * 4) + 0) = za from h_0]; rfl) ?_
  refine az_to 4 (pc2 := 10) (lv2 := [some (az_r 4), some (az_r 25), some (az_i (((c : Nat) : Int))), some (az_i (za)), none, none]) (st2 := [az_i (1), az_i (((c : Nat) : Int)), az_r 25]) (s2 := s) rfl ?_
  refine az_clv (v := some (az_i (s 29 ((c * 4) + 1)))) (t := s) (m2 := am_m_X1_number) (as := [az_r 25, az_i (((c : Nat) : Int)), az_i (1)]) (rest := []) 13 rfl rfl ⟨rfl, rfl⟩ (by omega) (zs_X1_number (s := s) (c := c) (k := 1) (by omega) (by omega) (by omega)) ?_
  refine az_to 0 (pc2 := 13) (lv2 := [some (az_r 4), some (az_r 25), some (az_i (((c : Nat) : Int))), some (az_i (za)), none, none]) (st2 := [az_i (s 29 ((c * 4) + 1))]) (s2 := s) rfl ?_
  refine az_to 0 (pc2 := 13) (lv2 := [some (az_r 4), some (az_r 25), some (az_i (((c : Nat) : Int))), some (az_i (za)), none, none]) (st2 := [az_i (zb)]) (s2 := s) (by rw [show s 29 ((c * 4) + 1) = zb from h_1]; rfl) ?_
  refine az_to 4 (pc2 := 18) (lv2 := [some (az_r 4), some (az_r 25), some (az_i (((c : Nat) : Int))), some (az_i (za)), some (az_i (zb)), none]) (st2 := [az_i (2), az_i (((c : Nat) : Int)), az_r 25]) (s2 := s) rfl ?_
  refine az_clv (v := some (az_i (s 29 ((c * 4) + 2)))) (t := s) (m2 := am_m_X1_number) (as := [az_r 25, az_i (((c : Nat) : Int)), az_i (2)]) (rest := []) 21 rfl rfl ⟨rfl, rfl⟩ (by omega) (zs_X1_number (s := s) (c := c) (k := 2) (by omega) (by omega) (by omega)) ?_
  refine az_to 0 (pc2 := 21) (lv2 := [some (az_r 4), some (az_r 25), some (az_i (((c : Nat) : Int))), some (az_i (za)), some (az_i (zb)), none]) (st2 := [az_i (s 29 ((c * 4) + 2))]) (s2 := s) rfl ?_
  refine az_to 0 (pc2 := 21) (lv2 := [some (az_r 4), some (az_r 25), some (az_i (((c : Nat) : Int))), some (az_i (za)), some (az_i (zb)), none]) (st2 := [az_i (zc)]) (s2 := s) (by rw [show s 29 ((c * 4) + 2) = zc from h_2]; rfl) ?_
  refine az_to 3 (pc2 := 25) (lv2 := [some (az_r 4), some (az_r 25), some (az_i (((c : Nat) : Int))), some (az_i (za)), some (az_i (zb)), some (az_i (zc))]) (st2 := [az_i (((c : Nat) : Int)), az_r 25]) (s2 := s) rfl ?_
  refine az_clv (v := some (az_i (s 27 c))) (t := s) (m2 := am_m_X1_kindOf) (as := [az_r 25, az_i (((c : Nat) : Int))]) (rest := []) 28 rfl rfl ⟨rfl, rfl⟩ (by omega) (zs_X1_kindOf (s := s) (c := c) (by omega) (by omega)) ?_
  refine az_to 0 (pc2 := 28) (lv2 := [some (az_r 4), some (az_r 25), some (az_i (((c : Nat) : Int))), some (az_i (za)), some (az_i (zb)), some (az_i (zc))]) (st2 := [az_i (s 27 c)]) (s2 := s) rfl ?_
  refine az_to 0 (pc2 := 28) (lv2 := [some (az_r 4), some (az_r 25), some (az_i (((c : Nat) : Int))), some (az_i (za)), some (az_i (zb)), some (az_i (zc))]) (st2 := [az_i (5)]) (s2 := s) (by rw [show s 27 c = 5 from hk]; rfl) ?_
  refine az_swc 141 rfl ⟨by decide, by decide⟩ (by decide) (by rfl) (by decide) ?_
  refine az_to 3 (pc2 := 145) (lv2 := [some (az_r 4), some (az_r 25), some (az_i (((c : Nat) : Int))), some (az_i (za)), some (az_i (zb)), some (az_i (zc))]) (st2 := [az_i (zb), az_i (za), az_r 4]) (s2 := s) rfl ?_
  refine az_cl (m2 := am_m_X0_disputeToll) (as := [az_r 4, az_i (za), az_i (zb)]) (rest := []) 148 rfl rfl ⟨rfl, rfl⟩ (by omega) (zs_X0_disputeToll (s := s) (zg := za) (zb := zb) (by omega) hR hI hh (by first | assumption | exact ⟨by omega, by omega⟩) (by first | assumption | exact ⟨by omega, by omega⟩)) (fun v9 u q9 => ?_) (fun E9 u q9 => by cases q9.1)
  obtain ⟨o9, hu⟩ := q9
  cases o9
  refine az_retA rfl rfl ?_
  exact ⟨rfl, hu⟩
set_option maxRecDepth 100000 in
set_option maxHeartbeats 800000 in
theorem zs_X0_carryOut_6 {d : Nat} {s : az_S} (hd : 5 ≤ d) {S : zR} {h : Nat} (hR : zRel (s 3) S) (hI : zInv S h) (hh : h ≤ 10000) (hh9 : h + 1 ≤ 10000) {c : Nat} (hc9 : c ≤ 9) (hk : s 27 c = 6) {za zb zc zd : Int} (h_0 : s 29 ((c * 4) + 0) = za) (h_1 : s 29 ((c * 4) + 1) = zb) (h_2 : s 29 ((c * 4) + 2) = zc) (h_3 : s 29 ((c * 4) + 3) = zd) (h_za : az_in za) : az_R d am_m_X0_carryOut 0 (az_ini (am_mL am_m_X0_carryOut) [az_r 4, az_r 25, az_i (((c : Nat) : Int))]) [] (s) (zCq s (zo_leave S za)) := by
  refine az_to 0 (pc2 := 0) (lv2 := [some (az_r 4), some (az_r 25), some (az_i (((c : Nat) : Int))), none, none, none]) (st2 := []) (s2 := s) rfl ?_
  refine az_to 3 (pc2 := 3) (lv2 := [some (az_r 4), some (az_r 25), some (az_i (((c : Nat) : Int))), none, none, none]) (st2 := [az_i (0), az_i (((c : Nat) : Int)), az_r 25]) (s2 := s) rfl ?_
  refine az_clv (v := some (az_i (s 29 ((c * 4) + 0)))) (t := s) (m2 := am_m_X1_number) (as := [az_r 25, az_i (((c : Nat) : Int)), az_i (0)]) (rest := []) 6 rfl rfl ⟨rfl, rfl⟩ (by omega) (zs_X1_number (s := s) (c := c) (k := 0) (by omega) (by omega) (by omega)) ?_
  refine az_to 0 (pc2 := 6) (lv2 := [some (az_r 4), some (az_r 25), some (az_i (((c : Nat) : Int))), none, none, none]) (st2 := [az_i (s 29 ((c * 4) + 0))]) (s2 := s) rfl ?_
  refine az_to 0 (pc2 := 6) (lv2 := [some (az_r 4), some (az_r 25), some (az_i (((c : Nat) : Int))), none, none, none]) (st2 := [az_i (za)]) (s2 := s) (by rw [show s 29 ((c * 4) + 0) = za from h_0]; rfl) ?_
  refine az_to 4 (pc2 := 10) (lv2 := [some (az_r 4), some (az_r 25), some (az_i (((c : Nat) : Int))), some (az_i (za)), none, none]) (st2 := [az_i (1), az_i (((c : Nat) : Int)), az_r 25]) (s2 := s) rfl ?_
  refine az_clv (v := some (az_i (s 29 ((c * 4) + 1)))) (t := s) (m2 := am_m_X1_number) (as := [az_r 25, az_i (((c : Nat) : Int)), az_i (1)]) (rest := []) 13 rfl rfl ⟨rfl, rfl⟩ (by omega) (zs_X1_number (s := s) (c := c) (k := 1) (by omega) (by omega) (by omega)) ?_
  refine az_to 0 (pc2 := 13) (lv2 := [some (az_r 4), some (az_r 25), some (az_i (((c : Nat) : Int))), some (az_i (za)), none, none]) (st2 := [az_i (s 29 ((c * 4) + 1))]) (s2 := s) rfl ?_
  refine az_to 0 (pc2 := 13) (lv2 := [some (az_r 4), some (az_r 25), some (az_i (((c : Nat) : Int))), some (az_i (za)), none, none]) (st2 := [az_i (zb)]) (s2 := s) (by rw [show s 29 ((c * 4) + 1) = zb from h_1]; rfl) ?_
  refine az_to 4 (pc2 := 18) (lv2 := [some (az_r 4), some (az_r 25), some (az_i (((c : Nat) : Int))), some (az_i (za)), some (az_i (zb)), none]) (st2 := [az_i (2), az_i (((c : Nat) : Int)), az_r 25]) (s2 := s) rfl ?_
  refine az_clv (v := some (az_i (s 29 ((c * 4) + 2)))) (t := s) (m2 := am_m_X1_number) (as := [az_r 25, az_i (((c : Nat) : Int)), az_i (2)]) (rest := []) 21 rfl rfl ⟨rfl, rfl⟩ (by omega) (zs_X1_number (s := s) (c := c) (k := 2) (by omega) (by omega) (by omega)) ?_
  refine az_to 0 (pc2 := 21) (lv2 := [some (az_r 4), some (az_r 25), some (az_i (((c : Nat) : Int))), some (az_i (za)), some (az_i (zb)), none]) (st2 := [az_i (s 29 ((c * 4) + 2))]) (s2 := s) rfl ?_
  refine az_to 0 (pc2 := 21) (lv2 := [some (az_r 4), some (az_r 25), some (az_i (((c : Nat) : Int))), some (az_i (za)), some (az_i (zb)), none]) (st2 := [az_i (zc)]) (s2 := s) (by rw [show s 29 ((c * 4) + 2) = zc from h_2]; rfl) ?_
  refine az_to 3 (pc2 := 25) (lv2 := [some (az_r 4), some (az_r 25), some (az_i (((c : Nat) : Int))), some (az_i (za)), some (az_i (zb)), some (az_i (zc))]) (st2 := [az_i (((c : Nat) : Int)), az_r 25]) (s2 := s) rfl ?_
  refine az_clv (v := some (az_i (s 27 c))) (t := s) (m2 := am_m_X1_kindOf) (as := [az_r 25, az_i (((c : Nat) : Int))]) (rest := []) 28 rfl rfl ⟨rfl, rfl⟩ (by omega) (zs_X1_kindOf (s := s) (c := c) (by omega) (by omega)) ?_
  refine az_to 0 (pc2 := 28) (lv2 := [some (az_r 4), some (az_r 25), some (az_i (((c : Nat) : Int))), some (az_i (za)), some (az_i (zb)), some (az_i (zc))]) (st2 := [az_i (s 27 c)]) (s2 := s) rfl ?_
  refine az_to 0 (pc2 := 28) (lv2 := [some (az_r 4), some (az_r 25), some (az_i (((c : Nat) : Int))), some (az_i (za)), some (az_i (zb)), some (az_i (zc))]) (st2 := [az_i (6)]) (s2 := s) (by rw [show s 27 c = 6 from hk]; rfl) ?_
  refine az_swc 149 rfl ⟨by decide, by decide⟩ (by decide) (by rfl) (by decide) ?_
  refine az_to 2 (pc2 := 151) (lv2 := [some (az_r 4), some (az_r 25), some (az_i (((c : Nat) : Int))), some (az_i (za)), some (az_i (zb)), some (az_i (zc))]) (st2 := [az_i (za), az_r 4]) (s2 := s) rfl ?_
  refine az_cl (m2 := am_m_X0_leaveBridge) (as := [az_r 4, az_i (za)]) (rest := []) 154 rfl rfl ⟨rfl, rfl⟩ (by omega) (zs_X0_leaveBridge (s := s) (zt := za) (by omega) hR hI hh (by first | assumption | exact ⟨by omega, by omega⟩)) (fun v9 u q9 => ?_) (fun E9 u q9 => by cases q9.1)
  obtain ⟨o9, hu⟩ := q9
  cases o9
  refine az_retA rfl rfl ?_
  exact ⟨rfl, hu⟩
set_option maxRecDepth 100000 in
set_option maxHeartbeats 800000 in
theorem zs_X0_carryOut_7 {d : Nat} {s : az_S} (hd : 5 ≤ d) {S : zR} {h : Nat} (hR : zRel (s 3) S) (hI : zInv S h) (hh : h ≤ 10000) (hh9 : h + 1 ≤ 10000) {c : Nat} (hc9 : c ≤ 9) (hk : s 27 c = 7) {za zb zc zd : Int} (h_0 : s 29 ((c * 4) + 0) = za) (h_1 : s 29 ((c * 4) + 1) = zb) (h_2 : s 29 ((c * 4) + 2) = zc) (h_3 : s 29 ((c * 4) + 3) = zd) (h_za : az_in za) : az_R d am_m_X0_carryOut 0 (az_ini (am_mL am_m_X0_carryOut) [az_r 4, az_r 25, az_i (((c : Nat) : Int))]) [] (s) (zCq s (zo_strike S za 1)) := by
  refine az_to 0 (pc2 := 0) (lv2 := [some (az_r 4), some (az_r 25), some (az_i (((c : Nat) : Int))), none, none, none]) (st2 := []) (s2 := s) rfl ?_
  refine az_to 3 (pc2 := 3) (lv2 := [some (az_r 4), some (az_r 25), some (az_i (((c : Nat) : Int))), none, none, none]) (st2 := [az_i (0), az_i (((c : Nat) : Int)), az_r 25]) (s2 := s) rfl ?_
  refine az_clv (v := some (az_i (s 29 ((c * 4) + 0)))) (t := s) (m2 := am_m_X1_number) (as := [az_r 25, az_i (((c : Nat) : Int)), az_i (0)]) (rest := []) 6 rfl rfl ⟨rfl, rfl⟩ (by omega) (zs_X1_number (s := s) (c := c) (k := 0) (by omega) (by omega) (by omega)) ?_
  refine az_to 0 (pc2 := 6) (lv2 := [some (az_r 4), some (az_r 25), some (az_i (((c : Nat) : Int))), none, none, none]) (st2 := [az_i (s 29 ((c * 4) + 0))]) (s2 := s) rfl ?_
  refine az_to 0 (pc2 := 6) (lv2 := [some (az_r 4), some (az_r 25), some (az_i (((c : Nat) : Int))), none, none, none]) (st2 := [az_i (za)]) (s2 := s) (by rw [show s 29 ((c * 4) + 0) = za from h_0]; rfl) ?_
  refine az_to 4 (pc2 := 10) (lv2 := [some (az_r 4), some (az_r 25), some (az_i (((c : Nat) : Int))), some (az_i (za)), none, none]) (st2 := [az_i (1), az_i (((c : Nat) : Int)), az_r 25]) (s2 := s) rfl ?_
  refine az_clv (v := some (az_i (s 29 ((c * 4) + 1)))) (t := s) (m2 := am_m_X1_number) (as := [az_r 25, az_i (((c : Nat) : Int)), az_i (1)]) (rest := []) 13 rfl rfl ⟨rfl, rfl⟩ (by omega) (zs_X1_number (s := s) (c := c) (k := 1) (by omega) (by omega) (by omega)) ?_
  refine az_to 0 (pc2 := 13) (lv2 := [some (az_r 4), some (az_r 25), some (az_i (((c : Nat) : Int))), some (az_i (za)), none, none]) (st2 := [az_i (s 29 ((c * 4) + 1))]) (s2 := s) rfl ?_
  refine az_to 0 (pc2 := 13) (lv2 := [some (az_r 4), some (az_r 25), some (az_i (((c : Nat) : Int))), some (az_i (za)), none, none]) (st2 := [az_i (zb)]) (s2 := s) (by rw [show s 29 ((c * 4) + 1) = zb from h_1]; rfl) ?_
  refine az_to 4 (pc2 := 18) (lv2 := [some (az_r 4), some (az_r 25), some (az_i (((c : Nat) : Int))), some (az_i (za)), some (az_i (zb)), none]) (st2 := [az_i (2), az_i (((c : Nat) : Int)), az_r 25]) (s2 := s) rfl ?_
  refine az_clv (v := some (az_i (s 29 ((c * 4) + 2)))) (t := s) (m2 := am_m_X1_number) (as := [az_r 25, az_i (((c : Nat) : Int)), az_i (2)]) (rest := []) 21 rfl rfl ⟨rfl, rfl⟩ (by omega) (zs_X1_number (s := s) (c := c) (k := 2) (by omega) (by omega) (by omega)) ?_
  refine az_to 0 (pc2 := 21) (lv2 := [some (az_r 4), some (az_r 25), some (az_i (((c : Nat) : Int))), some (az_i (za)), some (az_i (zb)), none]) (st2 := [az_i (s 29 ((c * 4) + 2))]) (s2 := s) rfl ?_
  refine az_to 0 (pc2 := 21) (lv2 := [some (az_r 4), some (az_r 25), some (az_i (((c : Nat) : Int))), some (az_i (za)), some (az_i (zb)), none]) (st2 := [az_i (zc)]) (s2 := s) (by rw [show s 29 ((c * 4) + 2) = zc from h_2]; rfl) ?_
  refine az_to 3 (pc2 := 25) (lv2 := [some (az_r 4), some (az_r 25), some (az_i (((c : Nat) : Int))), some (az_i (za)), some (az_i (zb)), some (az_i (zc))]) (st2 := [az_i (((c : Nat) : Int)), az_r 25]) (s2 := s) rfl ?_
  refine az_clv (v := some (az_i (s 27 c))) (t := s) (m2 := am_m_X1_kindOf) (as := [az_r 25, az_i (((c : Nat) : Int))]) (rest := []) 28 rfl rfl ⟨rfl, rfl⟩ (by omega) (zs_X1_kindOf (s := s) (c := c) (by omega) (by omega)) ?_
  refine az_to 0 (pc2 := 28) (lv2 := [some (az_r 4), some (az_r 25), some (az_i (((c : Nat) : Int))), some (az_i (za)), some (az_i (zb)), some (az_i (zc))]) (st2 := [az_i (s 27 c)]) (s2 := s) rfl ?_
  refine az_to 0 (pc2 := 28) (lv2 := [some (az_r 4), some (az_r 25), some (az_i (((c : Nat) : Int))), some (az_i (za)), some (az_i (zb)), some (az_i (zc))]) (st2 := [az_i (7)]) (s2 := s) (by rw [show s 27 c = 7 from hk]; rfl) ?_
  refine az_swc 155 rfl ⟨by decide, by decide⟩ (by decide) (by rfl) (by decide) ?_
  refine az_to 3 (pc2 := 158) (lv2 := [some (az_r 4), some (az_r 25), some (az_i (((c : Nat) : Int))), some (az_i (za)), some (az_i (zb)), some (az_i (zc))]) (st2 := [az_i (1), az_i (za), az_r 4]) (s2 := s) rfl ?_
  refine az_cl (m2 := am_m_X0_changeStrike) (as := [az_r 4, az_i (za), az_i (1)]) (rest := []) 161 rfl rfl ⟨rfl, rfl⟩ (by omega) (zs_X0_changeStrike_1 (s := s) (zg := za) (by omega) hR hI hh (by first | assumption | exact ⟨by omega, by omega⟩)) (fun v9 u q9 => ?_) (fun E9 u q9 => by cases q9.1)
  obtain ⟨o9, hu⟩ := q9
  cases o9
  refine az_retA rfl rfl ?_
  exact ⟨rfl, hu⟩
set_option maxRecDepth 100000 in
set_option maxHeartbeats 800000 in
theorem zs_X0_carryOut_8 {d : Nat} {s : az_S} (hd : 5 ≤ d) {S : zR} {h : Nat} (hR : zRel (s 3) S) (hI : zInv S h) (hh : h ≤ 10000) (hh9 : h + 1 ≤ 10000) {c : Nat} (hc9 : c ≤ 9) (hk : s 27 c = 8) {za zb zc zd : Int} (h_0 : s 29 ((c * 4) + 0) = za) (h_1 : s 29 ((c * 4) + 1) = zb) (h_2 : s 29 ((c * 4) + 2) = zc) (h_3 : s 29 ((c * 4) + 3) = zd) (h_za : az_in za) : az_R d am_m_X0_carryOut 0 (az_ini (am_mL am_m_X0_carryOut) [az_r 4, az_r 25, az_i (((c : Nat) : Int))]) [] (s) (zCq s (zo_strike S za 0)) := by
  refine az_to 0 (pc2 := 0) (lv2 := [some (az_r 4), some (az_r 25), some (az_i (((c : Nat) : Int))), none, none, none]) (st2 := []) (s2 := s) rfl ?_
  refine az_to 3 (pc2 := 3) (lv2 := [some (az_r 4), some (az_r 25), some (az_i (((c : Nat) : Int))), none, none, none]) (st2 := [az_i (0), az_i (((c : Nat) : Int)), az_r 25]) (s2 := s) rfl ?_
  refine az_clv (v := some (az_i (s 29 ((c * 4) + 0)))) (t := s) (m2 := am_m_X1_number) (as := [az_r 25, az_i (((c : Nat) : Int)), az_i (0)]) (rest := []) 6 rfl rfl ⟨rfl, rfl⟩ (by omega) (zs_X1_number (s := s) (c := c) (k := 0) (by omega) (by omega) (by omega)) ?_
  refine az_to 0 (pc2 := 6) (lv2 := [some (az_r 4), some (az_r 25), some (az_i (((c : Nat) : Int))), none, none, none]) (st2 := [az_i (s 29 ((c * 4) + 0))]) (s2 := s) rfl ?_
  refine az_to 0 (pc2 := 6) (lv2 := [some (az_r 4), some (az_r 25), some (az_i (((c : Nat) : Int))), none, none, none]) (st2 := [az_i (za)]) (s2 := s) (by rw [show s 29 ((c * 4) + 0) = za from h_0]; rfl) ?_
  refine az_to 4 (pc2 := 10) (lv2 := [some (az_r 4), some (az_r 25), some (az_i (((c : Nat) : Int))), some (az_i (za)), none, none]) (st2 := [az_i (1), az_i (((c : Nat) : Int)), az_r 25]) (s2 := s) rfl ?_
  refine az_clv (v := some (az_i (s 29 ((c * 4) + 1)))) (t := s) (m2 := am_m_X1_number) (as := [az_r 25, az_i (((c : Nat) : Int)), az_i (1)]) (rest := []) 13 rfl rfl ⟨rfl, rfl⟩ (by omega) (zs_X1_number (s := s) (c := c) (k := 1) (by omega) (by omega) (by omega)) ?_
  refine az_to 0 (pc2 := 13) (lv2 := [some (az_r 4), some (az_r 25), some (az_i (((c : Nat) : Int))), some (az_i (za)), none, none]) (st2 := [az_i (s 29 ((c * 4) + 1))]) (s2 := s) rfl ?_
  refine az_to 0 (pc2 := 13) (lv2 := [some (az_r 4), some (az_r 25), some (az_i (((c : Nat) : Int))), some (az_i (za)), none, none]) (st2 := [az_i (zb)]) (s2 := s) (by rw [show s 29 ((c * 4) + 1) = zb from h_1]; rfl) ?_
  refine az_to 4 (pc2 := 18) (lv2 := [some (az_r 4), some (az_r 25), some (az_i (((c : Nat) : Int))), some (az_i (za)), some (az_i (zb)), none]) (st2 := [az_i (2), az_i (((c : Nat) : Int)), az_r 25]) (s2 := s) rfl ?_
  refine az_clv (v := some (az_i (s 29 ((c * 4) + 2)))) (t := s) (m2 := am_m_X1_number) (as := [az_r 25, az_i (((c : Nat) : Int)), az_i (2)]) (rest := []) 21 rfl rfl ⟨rfl, rfl⟩ (by omega) (zs_X1_number (s := s) (c := c) (k := 2) (by omega) (by omega) (by omega)) ?_
  refine az_to 0 (pc2 := 21) (lv2 := [some (az_r 4), some (az_r 25), some (az_i (((c : Nat) : Int))), some (az_i (za)), some (az_i (zb)), none]) (st2 := [az_i (s 29 ((c * 4) + 2))]) (s2 := s) rfl ?_
  refine az_to 0 (pc2 := 21) (lv2 := [some (az_r 4), some (az_r 25), some (az_i (((c : Nat) : Int))), some (az_i (za)), some (az_i (zb)), none]) (st2 := [az_i (zc)]) (s2 := s) (by rw [show s 29 ((c * 4) + 2) = zc from h_2]; rfl) ?_
  refine az_to 3 (pc2 := 25) (lv2 := [some (az_r 4), some (az_r 25), some (az_i (((c : Nat) : Int))), some (az_i (za)), some (az_i (zb)), some (az_i (zc))]) (st2 := [az_i (((c : Nat) : Int)), az_r 25]) (s2 := s) rfl ?_
  refine az_clv (v := some (az_i (s 27 c))) (t := s) (m2 := am_m_X1_kindOf) (as := [az_r 25, az_i (((c : Nat) : Int))]) (rest := []) 28 rfl rfl ⟨rfl, rfl⟩ (by omega) (zs_X1_kindOf (s := s) (c := c) (by omega) (by omega)) ?_
  refine az_to 0 (pc2 := 28) (lv2 := [some (az_r 4), some (az_r 25), some (az_i (((c : Nat) : Int))), some (az_i (za)), some (az_i (zb)), some (az_i (zc))]) (st2 := [az_i (s 27 c)]) (s2 := s) rfl ?_
  refine az_to 0 (pc2 := 28) (lv2 := [some (az_r 4), some (az_r 25), some (az_i (((c : Nat) : Int))), some (az_i (za)), some (az_i (zb)), some (az_i (zc))]) (st2 := [az_i (8)]) (s2 := s) (by rw [show s 27 c = 8 from hk]; rfl) ?_
  refine az_swc 162 rfl ⟨by decide, by decide⟩ (by decide) (by rfl) (by decide) ?_
  refine az_to 3 (pc2 := 165) (lv2 := [some (az_r 4), some (az_r 25), some (az_i (((c : Nat) : Int))), some (az_i (za)), some (az_i (zb)), some (az_i (zc))]) (st2 := [az_i (0), az_i (za), az_r 4]) (s2 := s) rfl ?_
  refine az_cl (m2 := am_m_X0_changeStrike) (as := [az_r 4, az_i (za), az_i (0)]) (rest := []) 168 rfl rfl ⟨rfl, rfl⟩ (by omega) (zs_X0_changeStrike_0 (s := s) (zg := za) (by omega) hR hI hh (by first | assumption | exact ⟨by omega, by omega⟩)) (fun v9 u q9 => ?_) (fun E9 u q9 => by cases q9.1)
  obtain ⟨o9, hu⟩ := q9
  cases o9
  refine az_retA rfl rfl ?_
  exact ⟨rfl, hu⟩
set_option maxRecDepth 100000 in
set_option maxHeartbeats 800000 in
theorem zs_X0_carryOut_9 {d : Nat} {s : az_S} (hd : 5 ≤ d) {S : zR} {h : Nat} (hR : zRel (s 3) S) (hI : zInv S h) (hh : h ≤ 10000) (hh9 : h + 1 ≤ 10000) {c : Nat} (hc9 : c ≤ 9) (hk : s 27 c = 9) {za zb zc zd : Int} (h_0 : s 29 ((c * 4) + 0) = za) (h_1 : s 29 ((c * 4) + 1) = zb) (h_2 : s 29 ((c * 4) + 2) = zc) (h_3 : s 29 ((c * 4) + 3) = zd) (h_za : az_in za) (h_zb : az_in zb) (h_zc : az_in zc) : az_R d am_m_X0_carryOut 0 (az_ini (am_mL am_m_X0_carryOut) [az_r 4, az_r 25, az_i (((c : Nat) : Int))]) [] (s) (zCq s (zo_riddle S za zb zc)) := by
  refine az_to 0 (pc2 := 0) (lv2 := [some (az_r 4), some (az_r 25), some (az_i (((c : Nat) : Int))), none, none, none]) (st2 := []) (s2 := s) rfl ?_
  refine az_to 3 (pc2 := 3) (lv2 := [some (az_r 4), some (az_r 25), some (az_i (((c : Nat) : Int))), none, none, none]) (st2 := [az_i (0), az_i (((c : Nat) : Int)), az_r 25]) (s2 := s) rfl ?_
  refine az_clv (v := some (az_i (s 29 ((c * 4) + 0)))) (t := s) (m2 := am_m_X1_number) (as := [az_r 25, az_i (((c : Nat) : Int)), az_i (0)]) (rest := []) 6 rfl rfl ⟨rfl, rfl⟩ (by omega) (zs_X1_number (s := s) (c := c) (k := 0) (by omega) (by omega) (by omega)) ?_
  refine az_to 0 (pc2 := 6) (lv2 := [some (az_r 4), some (az_r 25), some (az_i (((c : Nat) : Int))), none, none, none]) (st2 := [az_i (s 29 ((c * 4) + 0))]) (s2 := s) rfl ?_
  refine az_to 0 (pc2 := 6) (lv2 := [some (az_r 4), some (az_r 25), some (az_i (((c : Nat) : Int))), none, none, none]) (st2 := [az_i (za)]) (s2 := s) (by rw [show s 29 ((c * 4) + 0) = za from h_0]; rfl) ?_
  refine az_to 4 (pc2 := 10) (lv2 := [some (az_r 4), some (az_r 25), some (az_i (((c : Nat) : Int))), some (az_i (za)), none, none]) (st2 := [az_i (1), az_i (((c : Nat) : Int)), az_r 25]) (s2 := s) rfl ?_
  refine az_clv (v := some (az_i (s 29 ((c * 4) + 1)))) (t := s) (m2 := am_m_X1_number) (as := [az_r 25, az_i (((c : Nat) : Int)), az_i (1)]) (rest := []) 13 rfl rfl ⟨rfl, rfl⟩ (by omega) (zs_X1_number (s := s) (c := c) (k := 1) (by omega) (by omega) (by omega)) ?_
  refine az_to 0 (pc2 := 13) (lv2 := [some (az_r 4), some (az_r 25), some (az_i (((c : Nat) : Int))), some (az_i (za)), none, none]) (st2 := [az_i (s 29 ((c * 4) + 1))]) (s2 := s) rfl ?_
  refine az_to 0 (pc2 := 13) (lv2 := [some (az_r 4), some (az_r 25), some (az_i (((c : Nat) : Int))), some (az_i (za)), none, none]) (st2 := [az_i (zb)]) (s2 := s) (by rw [show s 29 ((c * 4) + 1) = zb from h_1]; rfl) ?_
  refine az_to 4 (pc2 := 18) (lv2 := [some (az_r 4), some (az_r 25), some (az_i (((c : Nat) : Int))), some (az_i (za)), some (az_i (zb)), none]) (st2 := [az_i (2), az_i (((c : Nat) : Int)), az_r 25]) (s2 := s) rfl ?_
  refine az_clv (v := some (az_i (s 29 ((c * 4) + 2)))) (t := s) (m2 := am_m_X1_number) (as := [az_r 25, az_i (((c : Nat) : Int)), az_i (2)]) (rest := []) 21 rfl rfl ⟨rfl, rfl⟩ (by omega) (zs_X1_number (s := s) (c := c) (k := 2) (by omega) (by omega) (by omega)) ?_
  refine az_to 0 (pc2 := 21) (lv2 := [some (az_r 4), some (az_r 25), some (az_i (((c : Nat) : Int))), some (az_i (za)), some (az_i (zb)), none]) (st2 := [az_i (s 29 ((c * 4) + 2))]) (s2 := s) rfl ?_
  refine az_to 0 (pc2 := 21) (lv2 := [some (az_r 4), some (az_r 25), some (az_i (((c : Nat) : Int))), some (az_i (za)), some (az_i (zb)), none]) (st2 := [az_i (zc)]) (s2 := s) (by rw [show s 29 ((c * 4) + 2) = zc from h_2]; rfl) ?_
  refine az_to 3 (pc2 := 25) (lv2 := [some (az_r 4), some (az_r 25), some (az_i (((c : Nat) : Int))), some (az_i (za)), some (az_i (zb)), some (az_i (zc))]) (st2 := [az_i (((c : Nat) : Int)), az_r 25]) (s2 := s) rfl ?_
  refine az_clv (v := some (az_i (s 27 c))) (t := s) (m2 := am_m_X1_kindOf) (as := [az_r 25, az_i (((c : Nat) : Int))]) (rest := []) 28 rfl rfl ⟨rfl, rfl⟩ (by omega) (zs_X1_kindOf (s := s) (c := c) (by omega) (by omega)) ?_
  refine az_to 0 (pc2 := 28) (lv2 := [some (az_r 4), some (az_r 25), some (az_i (((c : Nat) : Int))), some (az_i (za)), some (az_i (zb)), some (az_i (zc))]) (st2 := [az_i (s 27 c)]) (s2 := s) rfl ?_
  refine az_to 0 (pc2 := 28) (lv2 := [some (az_r 4), some (az_r 25), some (az_i (((c : Nat) : Int))), some (az_i (za)), some (az_i (zb)), some (az_i (zc))]) (st2 := [az_i (9)]) (s2 := s) (by rw [show s 27 c = 9 from hk]; rfl) ?_
  refine az_swc 169 rfl ⟨by decide, by decide⟩ (by decide) (by rfl) (by decide) ?_
  refine az_to 4 (pc2 := 175) (lv2 := [some (az_r 4), some (az_r 25), some (az_i (((c : Nat) : Int))), some (az_i (za)), some (az_i (zb)), some (az_i (zc))]) (st2 := [az_i (zc), az_i (zb), az_i (za), az_r 4]) (s2 := s) rfl ?_
  refine az_cl (m2 := am_m_X0_giveRiddle) (as := [az_r 4, az_i (za), az_i (zb), az_i (zc)]) (rest := []) 178 rfl rfl ⟨rfl, rfl⟩ (by omega) (zs_X0_giveRiddle (s := s) (zt := za) (zd := zb) (zn0 := zc) (by omega) hR hI hh (by first | assumption | exact ⟨by omega, by omega⟩) (by first | assumption | exact ⟨by omega, by omega⟩) (by first | assumption | exact ⟨by omega, by omega⟩)) (fun v9 u q9 => ?_) (fun E9 u q9 => by cases q9.1)
  obtain ⟨o9, hu⟩ := q9
  cases o9
  refine az_retA rfl rfl ?_
  exact ⟨rfl, hu⟩
set_option maxRecDepth 100000 in
set_option maxHeartbeats 800000 in
theorem zs_X0_carryOut_10 {d : Nat} {s : az_S} (hd : 5 ≤ d) {S : zR} {h : Nat} (hR : zRel (s 3) S) (hI : zInv S h) (hh : h ≤ 10000) (hh9 : h + 1 ≤ 10000) {c : Nat} (hc9 : c ≤ 9) (hk : s 27 c = 10) {za zb zc zd : Int} (h_0 : s 29 ((c * 4) + 0) = za) (h_1 : s 29 ((c * 4) + 1) = zb) (h_2 : s 29 ((c * 4) + 2) = zc) (h_3 : s 29 ((c * 4) + 3) = zd) (h_za : az_in za) (h_zb : az_in zb) : az_R d am_m_X0_carryOut 0 (az_ini (am_mL am_m_X0_carryOut) [az_r 4, az_r 25, az_i (((c : Nat) : Int))]) [] (s) (zCq s (zo_fog S za zb)) := by
  refine az_to 0 (pc2 := 0) (lv2 := [some (az_r 4), some (az_r 25), some (az_i (((c : Nat) : Int))), none, none, none]) (st2 := []) (s2 := s) rfl ?_
  refine az_to 3 (pc2 := 3) (lv2 := [some (az_r 4), some (az_r 25), some (az_i (((c : Nat) : Int))), none, none, none]) (st2 := [az_i (0), az_i (((c : Nat) : Int)), az_r 25]) (s2 := s) rfl ?_
  refine az_clv (v := some (az_i (s 29 ((c * 4) + 0)))) (t := s) (m2 := am_m_X1_number) (as := [az_r 25, az_i (((c : Nat) : Int)), az_i (0)]) (rest := []) 6 rfl rfl ⟨rfl, rfl⟩ (by omega) (zs_X1_number (s := s) (c := c) (k := 0) (by omega) (by omega) (by omega)) ?_
  refine az_to 0 (pc2 := 6) (lv2 := [some (az_r 4), some (az_r 25), some (az_i (((c : Nat) : Int))), none, none, none]) (st2 := [az_i (s 29 ((c * 4) + 0))]) (s2 := s) rfl ?_
  refine az_to 0 (pc2 := 6) (lv2 := [some (az_r 4), some (az_r 25), some (az_i (((c : Nat) : Int))), none, none, none]) (st2 := [az_i (za)]) (s2 := s) (by rw [show s 29 ((c * 4) + 0) = za from h_0]; rfl) ?_
  refine az_to 4 (pc2 := 10) (lv2 := [some (az_r 4), some (az_r 25), some (az_i (((c : Nat) : Int))), some (az_i (za)), none, none]) (st2 := [az_i (1), az_i (((c : Nat) : Int)), az_r 25]) (s2 := s) rfl ?_
  refine az_clv (v := some (az_i (s 29 ((c * 4) + 1)))) (t := s) (m2 := am_m_X1_number) (as := [az_r 25, az_i (((c : Nat) : Int)), az_i (1)]) (rest := []) 13 rfl rfl ⟨rfl, rfl⟩ (by omega) (zs_X1_number (s := s) (c := c) (k := 1) (by omega) (by omega) (by omega)) ?_
  refine az_to 0 (pc2 := 13) (lv2 := [some (az_r 4), some (az_r 25), some (az_i (((c : Nat) : Int))), some (az_i (za)), none, none]) (st2 := [az_i (s 29 ((c * 4) + 1))]) (s2 := s) rfl ?_
  refine az_to 0 (pc2 := 13) (lv2 := [some (az_r 4), some (az_r 25), some (az_i (((c : Nat) : Int))), some (az_i (za)), none, none]) (st2 := [az_i (zb)]) (s2 := s) (by rw [show s 29 ((c * 4) + 1) = zb from h_1]; rfl) ?_
  refine az_to 4 (pc2 := 18) (lv2 := [some (az_r 4), some (az_r 25), some (az_i (((c : Nat) : Int))), some (az_i (za)), some (az_i (zb)), none]) (st2 := [az_i (2), az_i (((c : Nat) : Int)), az_r 25]) (s2 := s) rfl ?_
  refine az_clv (v := some (az_i (s 29 ((c * 4) + 2)))) (t := s) (m2 := am_m_X1_number) (as := [az_r 25, az_i (((c : Nat) : Int)), az_i (2)]) (rest := []) 21 rfl rfl ⟨rfl, rfl⟩ (by omega) (zs_X1_number (s := s) (c := c) (k := 2) (by omega) (by omega) (by omega)) ?_
  refine az_to 0 (pc2 := 21) (lv2 := [some (az_r 4), some (az_r 25), some (az_i (((c : Nat) : Int))), some (az_i (za)), some (az_i (zb)), none]) (st2 := [az_i (s 29 ((c * 4) + 2))]) (s2 := s) rfl ?_
  refine az_to 0 (pc2 := 21) (lv2 := [some (az_r 4), some (az_r 25), some (az_i (((c : Nat) : Int))), some (az_i (za)), some (az_i (zb)), none]) (st2 := [az_i (zc)]) (s2 := s) (by rw [show s 29 ((c * 4) + 2) = zc from h_2]; rfl) ?_
  refine az_to 3 (pc2 := 25) (lv2 := [some (az_r 4), some (az_r 25), some (az_i (((c : Nat) : Int))), some (az_i (za)), some (az_i (zb)), some (az_i (zc))]) (st2 := [az_i (((c : Nat) : Int)), az_r 25]) (s2 := s) rfl ?_
  refine az_clv (v := some (az_i (s 27 c))) (t := s) (m2 := am_m_X1_kindOf) (as := [az_r 25, az_i (((c : Nat) : Int))]) (rest := []) 28 rfl rfl ⟨rfl, rfl⟩ (by omega) (zs_X1_kindOf (s := s) (c := c) (by omega) (by omega)) ?_
  refine az_to 0 (pc2 := 28) (lv2 := [some (az_r 4), some (az_r 25), some (az_i (((c : Nat) : Int))), some (az_i (za)), some (az_i (zb)), some (az_i (zc))]) (st2 := [az_i (s 27 c)]) (s2 := s) rfl ?_
  refine az_to 0 (pc2 := 28) (lv2 := [some (az_r 4), some (az_r 25), some (az_i (((c : Nat) : Int))), some (az_i (za)), some (az_i (zb)), some (az_i (zc))]) (st2 := [az_i (10)]) (s2 := s) (by rw [show s 27 c = 10 from hk]; rfl) ?_
  refine az_swc 179 rfl ⟨by decide, by decide⟩ (by decide) (by rfl) (by decide) ?_
  refine az_to 3 (pc2 := 183) (lv2 := [some (az_r 4), some (az_r 25), some (az_i (((c : Nat) : Int))), some (az_i (za)), some (az_i (zb)), some (az_i (zc))]) (st2 := [az_i (zb), az_i (za), az_r 4]) (s2 := s) rfl ?_
  refine az_cl (m2 := am_m_X0_layFog) (as := [az_r 4, az_i (za), az_i (zb)]) (rest := []) 186 rfl rfl ⟨rfl, rfl⟩ (by omega) (zs_X0_layFog (s := s) (zb := za) (zn0 := zb) (by omega) hR hI hh (by first | assumption | exact ⟨by omega, by omega⟩) (by first | assumption | exact ⟨by omega, by omega⟩)) (fun v9 u q9 => ?_) (fun E9 u q9 => by cases q9.1)
  obtain ⟨o9, hu⟩ := q9
  cases o9
  refine az_retA rfl rfl ?_
  exact ⟨rfl, hu⟩
set_option maxRecDepth 100000 in
set_option maxHeartbeats 800000 in
theorem zs_X0_carryOut_11a {d : Nat} {s : az_S} (hd : 5 ≤ d) {S : zR} {h : Nat} (hR : zRel (s 3) S) (hI : zInv S h) (hh : h ≤ 10000) (hh9 : h + 1 ≤ 10000) {c : Nat} (hc9 : c ≤ 9) (hk : s 27 c = 11) {za zc zd : Int} (h_0 : s 29 ((c * 4) + 0) = za) (h_1 : s 29 ((c * 4) + 1) = 1) (h_2 : s 29 ((c * 4) + 2) = zc) (h_3 : s 29 ((c * 4) + 3) = zd) (h_za : az_in za) : az_R d am_m_X0_carryOut 0 (az_ini (am_mL am_m_X0_carryOut) [az_r 4, az_r 25, az_i (((c : Nat) : Int))]) [] (s) (zCq s (zo_settle S za 1)) := by
  refine az_to 0 (pc2 := 0) (lv2 := [some (az_r 4), some (az_r 25), some (az_i (((c : Nat) : Int))), none, none, none]) (st2 := []) (s2 := s) rfl ?_
  refine az_to 3 (pc2 := 3) (lv2 := [some (az_r 4), some (az_r 25), some (az_i (((c : Nat) : Int))), none, none, none]) (st2 := [az_i (0), az_i (((c : Nat) : Int)), az_r 25]) (s2 := s) rfl ?_
  refine az_clv (v := some (az_i (s 29 ((c * 4) + 0)))) (t := s) (m2 := am_m_X1_number) (as := [az_r 25, az_i (((c : Nat) : Int)), az_i (0)]) (rest := []) 6 rfl rfl ⟨rfl, rfl⟩ (by omega) (zs_X1_number (s := s) (c := c) (k := 0) (by omega) (by omega) (by omega)) ?_
  refine az_to 0 (pc2 := 6) (lv2 := [some (az_r 4), some (az_r 25), some (az_i (((c : Nat) : Int))), none, none, none]) (st2 := [az_i (s 29 ((c * 4) + 0))]) (s2 := s) rfl ?_
  refine az_to 0 (pc2 := 6) (lv2 := [some (az_r 4), some (az_r 25), some (az_i (((c : Nat) : Int))), none, none, none]) (st2 := [az_i (za)]) (s2 := s) (by rw [show s 29 ((c * 4) + 0) = za from h_0]; rfl) ?_
  refine az_to 4 (pc2 := 10) (lv2 := [some (az_r 4), some (az_r 25), some (az_i (((c : Nat) : Int))), some (az_i (za)), none, none]) (st2 := [az_i (1), az_i (((c : Nat) : Int)), az_r 25]) (s2 := s) rfl ?_
  refine az_clv (v := some (az_i (s 29 ((c * 4) + 1)))) (t := s) (m2 := am_m_X1_number) (as := [az_r 25, az_i (((c : Nat) : Int)), az_i (1)]) (rest := []) 13 rfl rfl ⟨rfl, rfl⟩ (by omega) (zs_X1_number (s := s) (c := c) (k := 1) (by omega) (by omega) (by omega)) ?_
  refine az_to 0 (pc2 := 13) (lv2 := [some (az_r 4), some (az_r 25), some (az_i (((c : Nat) : Int))), some (az_i (za)), none, none]) (st2 := [az_i (s 29 ((c * 4) + 1))]) (s2 := s) rfl ?_
  refine az_to 0 (pc2 := 13) (lv2 := [some (az_r 4), some (az_r 25), some (az_i (((c : Nat) : Int))), some (az_i (za)), none, none]) (st2 := [az_i (1)]) (s2 := s) (by rw [show s 29 ((c * 4) + 1) = 1 from h_1]; rfl) ?_
  refine az_to 4 (pc2 := 18) (lv2 := [some (az_r 4), some (az_r 25), some (az_i (((c : Nat) : Int))), some (az_i (za)), some (az_i (1)), none]) (st2 := [az_i (2), az_i (((c : Nat) : Int)), az_r 25]) (s2 := s) rfl ?_
  refine az_clv (v := some (az_i (s 29 ((c * 4) + 2)))) (t := s) (m2 := am_m_X1_number) (as := [az_r 25, az_i (((c : Nat) : Int)), az_i (2)]) (rest := []) 21 rfl rfl ⟨rfl, rfl⟩ (by omega) (zs_X1_number (s := s) (c := c) (k := 2) (by omega) (by omega) (by omega)) ?_
  refine az_to 0 (pc2 := 21) (lv2 := [some (az_r 4), some (az_r 25), some (az_i (((c : Nat) : Int))), some (az_i (za)), some (az_i (1)), none]) (st2 := [az_i (s 29 ((c * 4) + 2))]) (s2 := s) rfl ?_
  refine az_to 0 (pc2 := 21) (lv2 := [some (az_r 4), some (az_r 25), some (az_i (((c : Nat) : Int))), some (az_i (za)), some (az_i (1)), none]) (st2 := [az_i (zc)]) (s2 := s) (by rw [show s 29 ((c * 4) + 2) = zc from h_2]; rfl) ?_
  refine az_to 3 (pc2 := 25) (lv2 := [some (az_r 4), some (az_r 25), some (az_i (((c : Nat) : Int))), some (az_i (za)), some (az_i (1)), some (az_i (zc))]) (st2 := [az_i (((c : Nat) : Int)), az_r 25]) (s2 := s) rfl ?_
  refine az_clv (v := some (az_i (s 27 c))) (t := s) (m2 := am_m_X1_kindOf) (as := [az_r 25, az_i (((c : Nat) : Int))]) (rest := []) 28 rfl rfl ⟨rfl, rfl⟩ (by omega) (zs_X1_kindOf (s := s) (c := c) (by omega) (by omega)) ?_
  refine az_to 0 (pc2 := 28) (lv2 := [some (az_r 4), some (az_r 25), some (az_i (((c : Nat) : Int))), some (az_i (za)), some (az_i (1)), some (az_i (zc))]) (st2 := [az_i (s 27 c)]) (s2 := s) rfl ?_
  refine az_to 0 (pc2 := 28) (lv2 := [some (az_r 4), some (az_r 25), some (az_i (((c : Nat) : Int))), some (az_i (za)), some (az_i (1)), some (az_i (zc))]) (st2 := [az_i (11)]) (s2 := s) (by rw [show s 27 c = 11 from hk]; rfl) ?_
  refine az_swc 187 rfl ⟨by decide, by decide⟩ (by decide) (by rfl) (by decide) ?_
  refine az_to 4 (pc2 := 192) (lv2 := [some (az_r 4), some (az_r 25), some (az_i (((c : Nat) : Int))), some (az_i (za)), some (az_i (1)), some (az_i (zc))]) (st2 := [az_i (1), az_i (1), az_i (za), az_r 4]) (s2 := s) rfl ?_
  refine az_if2 199 195 rfl (by decide) ⟨by decide, by decide⟩ ⟨by decide, by decide⟩ (fun h => absurd h (by unfold az_cnd; decide)) (fun _ => ?_)
  refine az_to 2 (pc2 := 200) (lv2 := [some (az_r 4), some (az_r 25), some (az_i (((c : Nat) : Int))), some (az_i (za)), some (az_i (1)), some (az_i (zc))]) (st2 := [az_i (1), az_i (za), az_r 4]) (s2 := s) rfl ?_
  refine az_cl (m2 := am_m_X0_settleDispute) (as := [az_r 4, az_i (za), az_i (1)]) (rest := []) 203 rfl rfl ⟨rfl, rfl⟩ (by omega) (zs_X0_settleDispute_1 (s := s) (zb := za) (by omega) hR hI hh (by first | assumption | exact ⟨by omega, by omega⟩)) (fun v9 u q9 => ?_) (fun E9 u q9 => by cases q9.1)
  obtain ⟨o9, hu⟩ := q9
  cases o9
  refine az_retA rfl rfl ?_
  exact ⟨rfl, hu⟩
set_option maxRecDepth 100000 in
set_option maxHeartbeats 800000 in
theorem zs_X0_carryOut_11b {d : Nat} {s : az_S} (hd : 5 ≤ d) {S : zR} {h : Nat} (hR : zRel (s 3) S) (hI : zInv S h) (hh : h ≤ 10000) (hh9 : h + 1 ≤ 10000) {c : Nat} (hc9 : c ≤ 9) (hk : s 27 c = 11) {za zc zd : Int} (h_0 : s 29 ((c * 4) + 0) = za) (h_1 : s 29 ((c * 4) + 1) = 0) (h_2 : s 29 ((c * 4) + 2) = zc) (h_3 : s 29 ((c * 4) + 3) = zd) (h_za : az_in za) : az_R d am_m_X0_carryOut 0 (az_ini (am_mL am_m_X0_carryOut) [az_r 4, az_r 25, az_i (((c : Nat) : Int))]) [] (s) (zCq s (zo_settle S za 0)) := by
  refine az_to 0 (pc2 := 0) (lv2 := [some (az_r 4), some (az_r 25), some (az_i (((c : Nat) : Int))), none, none, none]) (st2 := []) (s2 := s) rfl ?_
  refine az_to 3 (pc2 := 3) (lv2 := [some (az_r 4), some (az_r 25), some (az_i (((c : Nat) : Int))), none, none, none]) (st2 := [az_i (0), az_i (((c : Nat) : Int)), az_r 25]) (s2 := s) rfl ?_
  refine az_clv (v := some (az_i (s 29 ((c * 4) + 0)))) (t := s) (m2 := am_m_X1_number) (as := [az_r 25, az_i (((c : Nat) : Int)), az_i (0)]) (rest := []) 6 rfl rfl ⟨rfl, rfl⟩ (by omega) (zs_X1_number (s := s) (c := c) (k := 0) (by omega) (by omega) (by omega)) ?_
  refine az_to 0 (pc2 := 6) (lv2 := [some (az_r 4), some (az_r 25), some (az_i (((c : Nat) : Int))), none, none, none]) (st2 := [az_i (s 29 ((c * 4) + 0))]) (s2 := s) rfl ?_
  refine az_to 0 (pc2 := 6) (lv2 := [some (az_r 4), some (az_r 25), some (az_i (((c : Nat) : Int))), none, none, none]) (st2 := [az_i (za)]) (s2 := s) (by rw [show s 29 ((c * 4) + 0) = za from h_0]; rfl) ?_
  refine az_to 4 (pc2 := 10) (lv2 := [some (az_r 4), some (az_r 25), some (az_i (((c : Nat) : Int))), some (az_i (za)), none, none]) (st2 := [az_i (1), az_i (((c : Nat) : Int)), az_r 25]) (s2 := s) rfl ?_
  refine az_clv (v := some (az_i (s 29 ((c * 4) + 1)))) (t := s) (m2 := am_m_X1_number) (as := [az_r 25, az_i (((c : Nat) : Int)), az_i (1)]) (rest := []) 13 rfl rfl ⟨rfl, rfl⟩ (by omega) (zs_X1_number (s := s) (c := c) (k := 1) (by omega) (by omega) (by omega)) ?_
  refine az_to 0 (pc2 := 13) (lv2 := [some (az_r 4), some (az_r 25), some (az_i (((c : Nat) : Int))), some (az_i (za)), none, none]) (st2 := [az_i (s 29 ((c * 4) + 1))]) (s2 := s) rfl ?_
  refine az_to 0 (pc2 := 13) (lv2 := [some (az_r 4), some (az_r 25), some (az_i (((c : Nat) : Int))), some (az_i (za)), none, none]) (st2 := [az_i (0)]) (s2 := s) (by rw [show s 29 ((c * 4) + 1) = 0 from h_1]; rfl) ?_
  refine az_to 4 (pc2 := 18) (lv2 := [some (az_r 4), some (az_r 25), some (az_i (((c : Nat) : Int))), some (az_i (za)), some (az_i (0)), none]) (st2 := [az_i (2), az_i (((c : Nat) : Int)), az_r 25]) (s2 := s) rfl ?_
  refine az_clv (v := some (az_i (s 29 ((c * 4) + 2)))) (t := s) (m2 := am_m_X1_number) (as := [az_r 25, az_i (((c : Nat) : Int)), az_i (2)]) (rest := []) 21 rfl rfl ⟨rfl, rfl⟩ (by omega) (zs_X1_number (s := s) (c := c) (k := 2) (by omega) (by omega) (by omega)) ?_
  refine az_to 0 (pc2 := 21) (lv2 := [some (az_r 4), some (az_r 25), some (az_i (((c : Nat) : Int))), some (az_i (za)), some (az_i (0)), none]) (st2 := [az_i (s 29 ((c * 4) + 2))]) (s2 := s) rfl ?_
  refine az_to 0 (pc2 := 21) (lv2 := [some (az_r 4), some (az_r 25), some (az_i (((c : Nat) : Int))), some (az_i (za)), some (az_i (0)), none]) (st2 := [az_i (zc)]) (s2 := s) (by rw [show s 29 ((c * 4) + 2) = zc from h_2]; rfl) ?_
  refine az_to 3 (pc2 := 25) (lv2 := [some (az_r 4), some (az_r 25), some (az_i (((c : Nat) : Int))), some (az_i (za)), some (az_i (0)), some (az_i (zc))]) (st2 := [az_i (((c : Nat) : Int)), az_r 25]) (s2 := s) rfl ?_
  refine az_clv (v := some (az_i (s 27 c))) (t := s) (m2 := am_m_X1_kindOf) (as := [az_r 25, az_i (((c : Nat) : Int))]) (rest := []) 28 rfl rfl ⟨rfl, rfl⟩ (by omega) (zs_X1_kindOf (s := s) (c := c) (by omega) (by omega)) ?_
  refine az_to 0 (pc2 := 28) (lv2 := [some (az_r 4), some (az_r 25), some (az_i (((c : Nat) : Int))), some (az_i (za)), some (az_i (0)), some (az_i (zc))]) (st2 := [az_i (s 27 c)]) (s2 := s) rfl ?_
  refine az_to 0 (pc2 := 28) (lv2 := [some (az_r 4), some (az_r 25), some (az_i (((c : Nat) : Int))), some (az_i (za)), some (az_i (0)), some (az_i (zc))]) (st2 := [az_i (11)]) (s2 := s) (by rw [show s 27 c = 11 from hk]; rfl) ?_
  refine az_swc 187 rfl ⟨by decide, by decide⟩ (by decide) (by rfl) (by decide) ?_
  refine az_to 4 (pc2 := 192) (lv2 := [some (az_r 4), some (az_r 25), some (az_i (((c : Nat) : Int))), some (az_i (za)), some (az_i (0)), some (az_i (zc))]) (st2 := [az_i (1), az_i (0), az_i (za), az_r 4]) (s2 := s) rfl ?_
  refine az_if2 199 195 rfl (by decide) ⟨by decide, by decide⟩ ⟨by decide, by decide⟩ (fun _ => ?_) (fun h => absurd (show az_cnd _ _ _ by unfold az_cnd; decide) h)
  refine az_to 1 (pc2 := 200) (lv2 := [some (az_r 4), some (az_r 25), some (az_i (((c : Nat) : Int))), some (az_i (za)), some (az_i (0)), some (az_i (zc))]) (st2 := [az_i (0), az_i (za), az_r 4]) (s2 := s) rfl ?_
  refine az_cl (m2 := am_m_X0_settleDispute) (as := [az_r 4, az_i (za), az_i (0)]) (rest := []) 203 rfl rfl ⟨rfl, rfl⟩ (by omega) (zs_X0_settleDispute_0 (s := s) (zb := za) (by omega) hR hI hh (by first | assumption | exact ⟨by omega, by omega⟩)) (fun v9 u q9 => ?_) (fun E9 u q9 => by cases q9.1)
  obtain ⟨o9, hu⟩ := q9
  cases o9
  refine az_retA rfl rfl ?_
  exact ⟨rfl, hu⟩
set_option maxRecDepth 100000 in
set_option maxHeartbeats 800000 in
theorem zs_X0_carryOut_12 {d : Nat} {s : az_S} (hd : 5 ≤ d) {S : zR} {h : Nat} (hR : zRel (s 3) S) (hI : zInv S h) (hh : h ≤ 10000) (hh9 : h + 1 ≤ 10000) {c : Nat} (hc9 : c ≤ 9) (hk : s 27 c = 12) {za zb zc zd : Int} (h_0 : s 29 ((c * 4) + 0) = za) (h_1 : s 29 ((c * 4) + 1) = zb) (h_2 : s 29 ((c * 4) + 2) = zc) (h_3 : s 29 ((c * 4) + 3) = zd) (h_za : az_in za) : az_R d am_m_X0_carryOut 0 (az_ini (am_mL am_m_X0_carryOut) [az_r 4, az_r 25, az_i (((c : Nat) : Int))]) [] (s) (zCq s (zo_pass S za)) := by
  refine az_to 0 (pc2 := 0) (lv2 := [some (az_r 4), some (az_r 25), some (az_i (((c : Nat) : Int))), none, none, none]) (st2 := []) (s2 := s) rfl ?_
  refine az_to 3 (pc2 := 3) (lv2 := [some (az_r 4), some (az_r 25), some (az_i (((c : Nat) : Int))), none, none, none]) (st2 := [az_i (0), az_i (((c : Nat) : Int)), az_r 25]) (s2 := s) rfl ?_
  refine az_clv (v := some (az_i (s 29 ((c * 4) + 0)))) (t := s) (m2 := am_m_X1_number) (as := [az_r 25, az_i (((c : Nat) : Int)), az_i (0)]) (rest := []) 6 rfl rfl ⟨rfl, rfl⟩ (by omega) (zs_X1_number (s := s) (c := c) (k := 0) (by omega) (by omega) (by omega)) ?_
  refine az_to 0 (pc2 := 6) (lv2 := [some (az_r 4), some (az_r 25), some (az_i (((c : Nat) : Int))), none, none, none]) (st2 := [az_i (s 29 ((c * 4) + 0))]) (s2 := s) rfl ?_
  refine az_to 0 (pc2 := 6) (lv2 := [some (az_r 4), some (az_r 25), some (az_i (((c : Nat) : Int))), none, none, none]) (st2 := [az_i (za)]) (s2 := s) (by rw [show s 29 ((c * 4) + 0) = za from h_0]; rfl) ?_
  refine az_to 4 (pc2 := 10) (lv2 := [some (az_r 4), some (az_r 25), some (az_i (((c : Nat) : Int))), some (az_i (za)), none, none]) (st2 := [az_i (1), az_i (((c : Nat) : Int)), az_r 25]) (s2 := s) rfl ?_
  refine az_clv (v := some (az_i (s 29 ((c * 4) + 1)))) (t := s) (m2 := am_m_X1_number) (as := [az_r 25, az_i (((c : Nat) : Int)), az_i (1)]) (rest := []) 13 rfl rfl ⟨rfl, rfl⟩ (by omega) (zs_X1_number (s := s) (c := c) (k := 1) (by omega) (by omega) (by omega)) ?_
  refine az_to 0 (pc2 := 13) (lv2 := [some (az_r 4), some (az_r 25), some (az_i (((c : Nat) : Int))), some (az_i (za)), none, none]) (st2 := [az_i (s 29 ((c * 4) + 1))]) (s2 := s) rfl ?_
  refine az_to 0 (pc2 := 13) (lv2 := [some (az_r 4), some (az_r 25), some (az_i (((c : Nat) : Int))), some (az_i (za)), none, none]) (st2 := [az_i (zb)]) (s2 := s) (by rw [show s 29 ((c * 4) + 1) = zb from h_1]; rfl) ?_
  refine az_to 4 (pc2 := 18) (lv2 := [some (az_r 4), some (az_r 25), some (az_i (((c : Nat) : Int))), some (az_i (za)), some (az_i (zb)), none]) (st2 := [az_i (2), az_i (((c : Nat) : Int)), az_r 25]) (s2 := s) rfl ?_
  refine az_clv (v := some (az_i (s 29 ((c * 4) + 2)))) (t := s) (m2 := am_m_X1_number) (as := [az_r 25, az_i (((c : Nat) : Int)), az_i (2)]) (rest := []) 21 rfl rfl ⟨rfl, rfl⟩ (by omega) (zs_X1_number (s := s) (c := c) (k := 2) (by omega) (by omega) (by omega)) ?_
  refine az_to 0 (pc2 := 21) (lv2 := [some (az_r 4), some (az_r 25), some (az_i (((c : Nat) : Int))), some (az_i (za)), some (az_i (zb)), none]) (st2 := [az_i (s 29 ((c * 4) + 2))]) (s2 := s) rfl ?_
  refine az_to 0 (pc2 := 21) (lv2 := [some (az_r 4), some (az_r 25), some (az_i (((c : Nat) : Int))), some (az_i (za)), some (az_i (zb)), none]) (st2 := [az_i (zc)]) (s2 := s) (by rw [show s 29 ((c * 4) + 2) = zc from h_2]; rfl) ?_
  refine az_to 3 (pc2 := 25) (lv2 := [some (az_r 4), some (az_r 25), some (az_i (((c : Nat) : Int))), some (az_i (za)), some (az_i (zb)), some (az_i (zc))]) (st2 := [az_i (((c : Nat) : Int)), az_r 25]) (s2 := s) rfl ?_
  refine az_clv (v := some (az_i (s 27 c))) (t := s) (m2 := am_m_X1_kindOf) (as := [az_r 25, az_i (((c : Nat) : Int))]) (rest := []) 28 rfl rfl ⟨rfl, rfl⟩ (by omega) (zs_X1_kindOf (s := s) (c := c) (by omega) (by omega)) ?_
  refine az_to 0 (pc2 := 28) (lv2 := [some (az_r 4), some (az_r 25), some (az_i (((c : Nat) : Int))), some (az_i (za)), some (az_i (zb)), some (az_i (zc))]) (st2 := [az_i (s 27 c)]) (s2 := s) rfl ?_
  refine az_to 0 (pc2 := 28) (lv2 := [some (az_r 4), some (az_r 25), some (az_i (((c : Nat) : Int))), some (az_i (za)), some (az_i (zb)), some (az_i (zc))]) (st2 := [az_i (12)]) (s2 := s) (by rw [show s 27 c = 12 from hk]; rfl) ?_
  refine az_swc 204 rfl ⟨by decide, by decide⟩ (by decide) (by rfl) (by decide) ?_
  refine az_to 2 (pc2 := 206) (lv2 := [some (az_r 4), some (az_r 25), some (az_i (((c : Nat) : Int))), some (az_i (za)), some (az_i (zb)), some (az_i (zc))]) (st2 := [az_i (za), az_r 4]) (s2 := s) rfl ?_
  refine az_cl (m2 := am_m_X0_passHours) (as := [az_r 4, az_i (za)]) (rest := []) 209 rfl rfl ⟨rfl, rfl⟩ (by omega) (zs_X0_passHours (s := s) (zh := za) (by omega) hR hI hh (by first | assumption | exact ⟨by omega, by omega⟩)) (fun v9 u q9 => ?_) (fun E9 u q9 => by cases q9.1)
  obtain ⟨o9, hu⟩ := q9
  cases o9
  refine az_retA rfl rfl ?_
  exact ⟨rfl, hu⟩

