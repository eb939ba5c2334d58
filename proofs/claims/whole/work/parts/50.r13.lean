/-! REFERENCE, 13: a command of the text is carried out; written by program (wip/tools/zg/r13.py) -/
set_option maxRecDepth 100000 in
set_option maxHeartbeats 800000 in
theorem zs_X10_does_0 {d : Nat} {s : az_S} (hd : 6 ≤ d) {S : zR} {h : Nat} (hS : s 35 = S) (hI : zInv S h) (hh : h ≤ 10000) (hh9 : h + 1 ≤ 10000) (h0 : s 34 6 = 0) {zk : Nat} (hc9 : zk ≤ 45) (hk : s 42 zk = 0) {za zb zc zd : Int} (h_0 : s 42 (zk + 1) = za) (h_1 : s 42 (zk + 2) = zb) (h_2 : s 42 (zk + 3) = zc) (h_3 : s 42 (zk + 4) = zd) (h_za : az_in za) (h_zb : az_in zb) (h_zc : az_in zc) (h_zd : az_in zd) : az_R d am_m_X10_does 0 (az_ini (am_mL am_m_X10_does) [az_r 34, az_i (((zk : Nat) : Int))]) [] (s) (zMq s (zo_bridge S za zb zc zd) 2) := by
  refine az_to 0 (pc2 := 0) (lv2 := [some (az_r 34), some (az_i (((zk : Nat) : Int))), none, none, none]) (st2 := []) (s2 := s) rfl ?_
  refine az_to 5 (pc2 := 7) (lv2 := [some (az_r 34), some (az_i (((zk : Nat) : Int))), none, none, none]) (st2 := [az_i ((((zk : Nat) : Int) + 1)), az_r 42]) (s2 := s) rfl ?_
  refine az_ld_i 8 rfl rfl (by constructor <;> omega) ⟨by decide, rfl⟩ ?_
  refine az_to 0 (pc2 := 8) (lv2 := [some (az_r 34), some (az_i (((zk : Nat) : Int))), none, none, none]) (st2 := [az_i (s 42 (zk + 1))]) (s2 := s) rfl ?_
  refine az_to 0 (pc2 := 8) (lv2 := [some (az_r 34), some (az_i (((zk : Nat) : Int))), none, none, none]) (st2 := [az_i (za)]) (s2 := s) (by rw [show s 42 (zk + 1) = za from h_0]; rfl) ?_
  refine az_to 6 (pc2 := 16) (lv2 := [some (az_r 34), some (az_i (((zk : Nat) : Int))), some (az_i (za)), none, none]) (st2 := [az_i ((((zk : Nat) : Int) + 2)), az_r 42]) (s2 := s) rfl ?_
  refine az_ld_i 17 rfl rfl (by constructor <;> omega) ⟨by decide, rfl⟩ ?_
  refine az_to 0 (pc2 := 17) (lv2 := [some (az_r 34), some (az_i (((zk : Nat) : Int))), some (az_i (za)), none, none]) (st2 := [az_i (s 42 (zk + 2))]) (s2 := s) rfl ?_
  refine az_to 0 (pc2 := 17) (lv2 := [some (az_r 34), some (az_i (((zk : Nat) : Int))), some (az_i (za)), none, none]) (st2 := [az_i (zb)]) (s2 := s) (by rw [show s 42 (zk + 2) = zb from h_1]; rfl) ?_
  refine az_to 6 (pc2 := 25) (lv2 := [some (az_r 34), some (az_i (((zk : Nat) : Int))), some (az_i (za)), some (az_i (zb)), none]) (st2 := [az_i ((((zk : Nat) : Int) + 3)), az_r 42]) (s2 := s) rfl ?_
  refine az_ld_i 26 rfl rfl (by constructor <;> omega) ⟨by decide, rfl⟩ ?_
  refine az_to 0 (pc2 := 26) (lv2 := [some (az_r 34), some (az_i (((zk : Nat) : Int))), some (az_i (za)), some (az_i (zb)), none]) (st2 := [az_i (s 42 (zk + 3))]) (s2 := s) rfl ?_
  refine az_to 0 (pc2 := 26) (lv2 := [some (az_r 34), some (az_i (((zk : Nat) : Int))), some (az_i (za)), some (az_i (zb)), none]) (st2 := [az_i (zc)]) (s2 := s) (by rw [show s 42 (zk + 3) = zc from h_2]; rfl) ?_
  refine az_to 4 (pc2 := 33) (lv2 := [some (az_r 34), some (az_i (((zk : Nat) : Int))), some (az_i (za)), some (az_i (zb)), some (az_i (zc))]) (st2 := [az_i (((zk : Nat) : Int)), az_r 42]) (s2 := s) rfl ?_
  refine az_ld_i 34 rfl rfl (by constructor <;> omega) ⟨by decide, rfl⟩ ?_
  refine az_to 0 (pc2 := 34) (lv2 := [some (az_r 34), some (az_i (((zk : Nat) : Int))), some (az_i (za)), some (az_i (zb)), some (az_i (zc))]) (st2 := [az_i (s 42 zk)]) (s2 := s) rfl ?_
  refine az_to 0 (pc2 := 34) (lv2 := [some (az_r 34), some (az_i (((zk : Nat) : Int))), some (az_i (za)), some (az_i (zb)), some (az_i (zc))]) (st2 := [az_i (0)]) (s2 := s) (by rw [show s 42 zk = 0 from hk]; rfl) ?_
  refine az_swc 96 rfl ⟨by decide, by decide⟩ (by decide) (by rfl) (by decide) ?_
  refine az_to 9 (pc2 := 108) (lv2 := [some (az_r 34), some (az_i (((zk : Nat) : Int))), some (az_i (za)), some (az_i (zb)), some (az_i (zc))]) (st2 := [az_i ((((zk : Nat) : Int) + 4)), az_r 42, az_i (zc), az_i (zb), az_i (za), az_r 34]) (s2 := s) rfl ?_
  refine az_ld_i 109 rfl rfl (by constructor <;> omega) ⟨by decide, rfl⟩ ?_
  refine az_to 0 (pc2 := 109) (lv2 := [some (az_r 34), some (az_i (((zk : Nat) : Int))), some (az_i (za)), some (az_i (zb)), some (az_i (zc))]) (st2 := [az_i (s 42 (zk + 4)), az_i (zc), az_i (zb), az_i (za), az_r 34]) (s2 := s) rfl ?_
  refine az_to 0 (pc2 := 109) (lv2 := [some (az_r 34), some (az_i (((zk : Nat) : Int))), some (az_i (za)), some (az_i (zb)), some (az_i (zc))]) (st2 := [az_i (zd), az_i (zc), az_i (zb), az_i (za), az_r 34]) (s2 := s) (by rw [show s 42 (zk + 4) = zd from h_3]; rfl) ?_
  refine az_cl (m2 := am_m_X10_builds) (as := [az_r 34, az_i (za), az_i (zb), az_i (zc), az_i (zd)]) (rest := []) 112 rfl rfl ⟨rfl, rfl⟩ (by omega) (zs_X10_builds (s := s) (zo := za) (zp := zb) (zq := zc) (zr := zd) (by omega) hS hI hh (by first | assumption | exact ⟨by omega, by omega⟩) (by first | assumption | exact ⟨by omega, by omega⟩) (by first | assumption | exact ⟨by omega, by omega⟩) (by first | assumption | exact ⟨by omega, by omega⟩)) (fun v9 u q9 => ?_) (fun E9 u q9 => by cases q9.1)
  obtain ⟨o9, hu⟩ := q9
  cases o9
  refine az_retI rfl rfl ?_
  exact ⟨rfl, hu⟩
set_option maxRecDepth 100000 in
set_option maxHeartbeats 800000 in
theorem zs_X10_does_1 {d : Nat} {s : az_S} (hd : 6 ≤ d) {S : zR} {h : Nat} (hS : s 35 = S) (hI : zInv S h) (hh : h ≤ 10000) (hh9 : h + 1 ≤ 10000) (h0 : s 34 6 = 0) {zk : Nat} (hc9 : zk ≤ 45) (hk : s 42 zk = 1) {za zb zc zd : Int} (h_0 : s 42 (zk + 1) = za) (h_1 : s 42 (zk + 2) = zb) (h_2 : s 42 (zk + 3) = zc) (h_3 : s 42 (zk + 4) = zd)  : az_R d am_m_X10_does 0 (az_ini (am_mL am_m_X10_does) [az_r 34, az_i (((zk : Nat) : Int))]) [] (s) (zMq s (zo_troll S ) 2) := by
  refine az_to 0 (pc2 := 0) (lv2 := [some (az_r 34), some (az_i (((zk : Nat) : Int))), none, none, none]) (st2 := []) (s2 := s) rfl ?_
  refine az_to 5 (pc2 := 7) (lv2 := [some (az_r 34), some (az_i (((zk : Nat) : Int))), none, none, none]) (st2 := [az_i ((((zk : Nat) : Int) + 1)), az_r 42]) (s2 := s) rfl ?_
  refine az_ld_i 8 rfl rfl (by constructor <;> omega) ⟨by decide, rfl⟩ ?_
  refine az_to 0 (pc2 := 8) (lv2 := [some (az_r 34), some (az_i (((zk : Nat) : Int))), none, none, none]) (st2 := [az_i (s 42 (zk + 1))]) (s2 := s) rfl ?_
  refine az_to 0 (pc2 := 8) (lv2 := [some (az_r 34), some (az_i (((zk : Nat) : Int))), none, none, none]) (st2 := [az_i (za)]) (s2 := s) (by rw [show s 42 (zk + 1) = za from h_0]; rfl) ?_
  refine az_to 6 (pc2 := 16) (lv2 := [some (az_r 34), some (az_i (((zk : Nat) : Int))), some (az_i (za)), none, none]) (st2 := [az_i ((((zk : Nat) : Int) + 2)), az_r 42]) (s2 := s) rfl ?_
  refine az_ld_i 17 rfl rfl (by constructor <;> omega) ⟨by decide, rfl⟩ ?_
  refine az_to 0 (pc2 := 17) (lv2 := [some (az_r 34), some (az_i (((zk : Nat) : Int))), some (az_i (za)), none, none]) (st2 := [az_i (s 42 (zk + 2))]) (s2 := s) rfl ?_
  refine az_to 0 (pc2 := 17) (lv2 := [some (az_r 34), some (az_i (((zk : Nat) : Int))), some (az_i (za)), none, none]) (st2 := [az_i (zb)]) (s2 := s) (by rw [show s 42 (zk + 2) = zb from h_1]; rfl) ?_
  refine az_to 6 (pc2 := 25) (lv2 := [some (az_r 34), some (az_i (((zk : Nat) : Int))), some (az_i (za)), some (az_i (zb)), none]) (st2 := [az_i ((((zk : Nat) : Int) + 3)), az_r 42]) (s2 := s) rfl ?_
  refine az_ld_i 26 rfl rfl (by constructor <;> omega) ⟨by decide, rfl⟩ ?_
  refine az_to 0 (pc2 := 26) (lv2 := [some (az_r 34), some (az_i (((zk : Nat) : Int))), some (az_i (za)), some (az_i (zb)), none]) (st2 := [az_i (s 42 (zk + 3))]) (s2 := s) rfl ?_
  refine az_to 0 (pc2 := 26) (lv2 := [some (az_r 34), some (az_i (((zk : Nat) : Int))), some (az_i (za)), some (az_i (zb)), none]) (st2 := [az_i (zc)]) (s2 := s) (by rw [show s 42 (zk + 3) = zc from h_2]; rfl) ?_
  refine az_to 4 (pc2 := 33) (lv2 := [some (az_r 34), some (az_i (((zk : Nat) : Int))), some (az_i (za)), some (az_i (zb)), some (az_i (zc))]) (st2 := [az_i (((zk : Nat) : Int)), az_r 42]) (s2 := s) rfl ?_
  refine az_ld_i 34 rfl rfl (by constructor <;> omega) ⟨by decide, rfl⟩ ?_
  refine az_to 0 (pc2 := 34) (lv2 := [some (az_r 34), some (az_i (((zk : Nat) : Int))), some (az_i (za)), some (az_i (zb)), some (az_i (zc))]) (st2 := [az_i (s 42 zk)]) (s2 := s) rfl ?_
  refine az_to 0 (pc2 := 34) (lv2 := [some (az_r 34), some (az_i (((zk : Nat) : Int))), some (az_i (za)), some (az_i (zb)), some (az_i (zc))]) (st2 := [az_i (1)]) (s2 := s) (by rw [show s 42 zk = 1 from hk]; rfl) ?_
  refine az_swc 113 rfl ⟨by decide, by decide⟩ (by decide) (by rfl) (by decide) ?_
  refine az_to 1 (pc2 := 114) (lv2 := [some (az_r 34), some (az_i (((zk : Nat) : Int))), some (az_i (za)), some (az_i (zb)), some (az_i (zc))]) (st2 := [az_r 34]) (s2 := s) rfl ?_
  refine az_cl (m2 := am_m_X10_trolls) (as := [az_r 34]) (rest := []) 117 rfl rfl ⟨rfl, rfl⟩ (by omega) (zs_X10_trolls (s := s)  (by omega) hS hI hh h0) (fun v9 u q9 => ?_) (fun E9 u q9 => by cases q9.1)
  obtain ⟨o9, hu⟩ := q9
  cases o9
  refine az_retI rfl rfl ?_
  exact ⟨rfl, hu⟩
set_option maxRecDepth 100000 in
set_option maxHeartbeats 800000 in
theorem zs_X10_does_2 {d : Nat} {s : az_S} (hd : 6 ≤ d) {S : zR} {h : Nat} (hS : s 35 = S) (hI : zInv S h) (hh : h ≤ 10000) (hh9 : h + 1 ≤ 10000) (h0 : s 34 6 = 0) {zk : Nat} (hc9 : zk ≤ 45) (hk : s 42 zk = 2) {za zb zc zd : Int} (h_0 : s 42 (zk + 1) = za) (h_1 : s 42 (zk + 2) = zb) (h_2 : s 42 (zk + 3) = zc) (h_3 : s 42 (zk + 4) = zd) (h_za : az_in za) (h_zb : az_in zb) : az_R d am_m_X10_does 0 (az_ini (am_mL am_m_X10_does) [az_r 34, az_i (((zk : Nat) : Int))]) [] (s) (zMq s (zo_goat S za zb) 2) := by
  refine az_to 0 (pc2 := 0) (lv2 := [some (az_r 34), some (az_i (((zk : Nat) : Int))), none, none, none]) (st2 := []) (s2 := s) rfl ?_
  refine az_to 5 (pc2 := 7) (lv2 := [some (az_r 34), some (az_i (((zk : Nat) : Int))), none, none, none]) (st2 := [az_i ((((zk : Nat) : Int) + 1)), az_r 42]) (s2 := s) rfl ?_
  refine az_ld_i 8 rfl rfl (by constructor <;> omega) ⟨by decide, rfl⟩ ?_
  refine az_to 0 (pc2 := 8) (lv2 := [some (az_r 34), some (az_i (((zk : Nat) : Int))), none, none, none]) (st2 := [az_i (s 42 (zk + 1))]) (s2 := s) rfl ?_
  refine az_to 0 (pc2 := 8) (lv2 := [some (az_r 34), some (az_i (((zk : Nat) : Int))), none, none, none]) (st2 := [az_i (za)]) (s2 := s) (by rw [show s 42 (zk + 1) = za from h_0]; rfl) ?_
  refine az_to 6 (pc2 := 16) (lv2 := [some (az_r 34), some (az_i (((zk : Nat) : Int))), some (az_i (za)), none, none]) (st2 := [az_i ((((zk : Nat) : Int) + 2)), az_r 42]) (s2 := s) rfl ?_
  refine az_ld_i 17 rfl rfl (by constructor <;> omega) ⟨by decide, rfl⟩ ?_
  refine az_to 0 (pc2 := 17) (lv2 := [some (az_r 34), some (az_i (((zk : Nat) : Int))), some (az_i (za)), none, none]) (st2 := [az_i (s 42 (zk + 2))]) (s2 := s) rfl ?_
  refine az_to 0 (pc2 := 17) (lv2 := [some (az_r 34), some (az_i (((zk : Nat) : Int))), some (az_i (za)), none, none]) (st2 := [az_i (zb)]) (s2 := s) (by rw [show s 42 (zk + 2) = zb from h_1]; rfl) ?_
  refine az_to 6 (pc2 := 25) (lv2 := [some (az_r 34), some (az_i (((zk : Nat) : Int))), some (az_i (za)), some (az_i (zb)), none]) (st2 := [az_i ((((zk : Nat) : Int) + 3)), az_r 42]) (s2 := s) rfl ?_
  refine az_ld_i 26 rfl rfl (by constructor <;> omega) ⟨by decide, rfl⟩ ?_
  refine az_to 0 (pc2 := 26) (lv2 := [some (az_r 34), some (az_i (((zk : Nat) : Int))), some (az_i (za)), some (az_i (zb)), none]) (st2 := [az_i (s 42 (zk + 3))]) (s2 := s) rfl ?_
  refine az_to 0 (pc2 := 26) (lv2 := [some (az_r 34), some (az_i (((zk : Nat) : Int))), some (az_i (za)), some (az_i (zb)), none]) (st2 := [az_i (zc)]) (s2 := s) (by rw [show s 42 (zk + 3) = zc from h_2]; rfl) ?_
  refine az_to 4 (pc2 := 33) (lv2 := [some (az_r 34), some (az_i (((zk : Nat) : Int))), some (az_i (za)), some (az_i (zb)), some (az_i (zc))]) (st2 := [az_i (((zk : Nat) : Int)), az_r 42]) (s2 := s) rfl ?_
  refine az_ld_i 34 rfl rfl (by constructor <;> omega) ⟨by decide, rfl⟩ ?_
  refine az_to 0 (pc2 := 34) (lv2 := [some (az_r 34), some (az_i (((zk : Nat) : Int))), some (az_i (za)), some (az_i (zb)), some (az_i (zc))]) (st2 := [az_i (s 42 zk)]) (s2 := s) rfl ?_
  refine az_to 0 (pc2 := 34) (lv2 := [some (az_r 34), some (az_i (((zk : Nat) : Int))), some (az_i (za)), some (az_i (zb)), some (az_i (zc))]) (st2 := [az_i (2)]) (s2 := s) (by rw [show s 42 zk = 2 from hk]; rfl) ?_
  refine az_swc 118 rfl ⟨by decide, by decide⟩ (by decide) (by rfl) (by decide) ?_
  refine az_to 3 (pc2 := 121) (lv2 := [some (az_r 34), some (az_i (((zk : Nat) : Int))), some (az_i (za)), some (az_i (zb)), some (az_i (zc))]) (st2 := [az_i (zb), az_i (za), az_r 34]) (s2 := s) rfl ?_
  refine az_cl (m2 := am_m_X10_goats) (as := [az_r 34, az_i (za), az_i (zb)]) (rest := []) 124 rfl rfl ⟨rfl, rfl⟩ (by omega) (zs_X10_goats (s := s) (zl := za) (zc := zb) (by omega) hS hI hh (by first | assumption | exact ⟨by omega, by omega⟩) (by first | assumption | exact ⟨by omega, by omega⟩)) (fun v9 u q9 => ?_) (fun E9 u q9 => by cases q9.1)
  obtain ⟨o9, hu⟩ := q9
  cases o9
  refine az_retI rfl rfl ?_
  exact ⟨rfl, hu⟩
set_option maxRecDepth 100000 in
set_option maxHeartbeats 800000 in
theorem zs_X10_does_3 {d : Nat} {s : az_S} (hd : 6 ≤ d) {S : zR} {h : Nat} (hS : s 35 = S) (hI : zInv S h) (hh : h ≤ 10000) (hh9 : h + 1 ≤ 10000) (h0 : s 34 6 = 0) {zk : Nat} (hc9 : zk ≤ 45) (hk : s 42 zk = 3) {za zb zc zd : Int} (h_0 : s 42 (zk + 1) = za) (h_1 : s 42 (zk + 2) = zb) (h_2 : s 42 (zk + 3) = zc) (h_3 : s 42 (zk + 4) = zd) (h_za : az_in za) (h_zb : az_in zb) : az_R d am_m_X10_does 0 (az_ini (am_mL am_m_X10_does) [az_r 34, az_i (((zk : Nat) : Int))]) [] (s) (zMq s (zo_post S za zb) 2) := by
  refine az_to 0 (pc2 := 0) (lv2 := [some (az_r 34), some (az_i (((zk : Nat) : Int))), none, none, none]) (st2 := []) (s2 := s) rfl ?_
  refine az_to 5 (pc2 := 7) (lv2 := [some (az_r 34), some (az_i (((zk : Nat) : Int))), none, none, none]) (st2 := [az_i ((((zk : Nat) : Int) + 1)), az_r 42]) (s2 := s) rfl ?_
  refine az_ld_i 8 rfl rfl (by constructor <;> omega) ⟨by decide, rfl⟩ ?_
  refine az_to 0 (pc2 := 8) (lv2 := [some (az_r 34), some (az_i (((zk : Nat) : Int))), none, none, none]) (st2 := [az_i (s 42 (zk + 1))]) (s2 := s) rfl ?_
  refine az_to 0 (pc2 := 8) (lv2 := [some (az_r 34), some (az_i (((zk : Nat) : Int))), none, none, none]) (st2 := [az_i (za)]) (s2 := s) (by rw [show s 42 (zk + 1) = za from h_0]; rfl) ?_
  refine az_to 6 (pc2 := 16) (lv2 := [some (az_r 34), some (az_i (((zk : Nat) : Int))), some (az_i (za)), none, none]) (st2 := [az_i ((((zk : Nat) : Int) + 2)), az_r 42]) (s2 := s) rfl ?_
  refine az_ld_i 17 rfl rfl (by constructor <;> omega) ⟨by decide, rfl⟩ ?_
  refine az_to 0 (pc2 := 17) (lv2 := [some (az_r 34), some (az_i (((zk : Nat) : Int))), some (az_i (za)), none, none]) (st2 := [az_i (s 42 (zk + 2))]) (s2 := s) rfl ?_
  refine az_to 0 (pc2 := 17) (lv2 := [some (az_r 34), some (az_i (((zk : Nat) : Int))), some (az_i (za)), none, none]) (st2 := [az_i (zb)]) (s2 := s) (by rw [show s 42 (zk + 2) = zb from h_1]; rfl) ?_
  refine az_to 6 (pc2 := 25) (lv2 := [some (az_r 34), some (az_i (((zk : Nat) : Int))), some (az_i (za)), some (az_i (zb)), none]) (st2 := [az_i ((((zk : Nat) : Int) + 3)), az_r 42]) (s2 := s) rfl ?_
  refine az_ld_i 26 rfl rfl (by constructor <;> omega) ⟨by decide, rfl⟩ ?_
  refine az_to 0 (pc2 := 26) (lv2 := [some (az_r 34), some (az_i (((zk : Nat) : Int))), some (az_i (za)), some (az_i (zb)), none]) (st2 := [az_i (s 42 (zk + 3))]) (s2 := s) rfl ?_
  refine az_to 0 (pc2 := 26) (lv2 := [some (az_r 34), some (az_i (((zk : Nat) : Int))), some (az_i (za)), some (az_i (zb)), none]) (st2 := [az_i (zc)]) (s2 := s) (by rw [show s 42 (zk + 3) = zc from h_2]; rfl) ?_
  refine az_to 4 (pc2 := 33) (lv2 := [some (az_r 34), some (az_i (((zk : Nat) : Int))), some (az_i (za)), some (az_i (zb)), some (az_i (zc))]) (st2 := [az_i (((zk : Nat) : Int)), az_r 42]) (s2 := s) rfl ?_
  refine az_ld_i 34 rfl rfl (by constructor <;> omega) ⟨by decide, rfl⟩ ?_
  refine az_to 0 (pc2 := 34) (lv2 := [some (az_r 34), some (az_i (((zk : Nat) : Int))), some (az_i (za)), some (az_i (zb)), some (az_i (zc))]) (st2 := [az_i (s 42 zk)]) (s2 := s) rfl ?_
  refine az_to 0 (pc2 := 34) (lv2 := [some (az_r 34), some (az_i (((zk : Nat) : Int))), some (az_i (za)), some (az_i (zb)), some (az_i (zc))]) (st2 := [az_i (3)]) (s2 := s) (by rw [show s 42 zk = 3 from hk]; rfl) ?_
  refine az_swc 125 rfl ⟨by decide, by decide⟩ (by decide) (by rfl) (by decide) ?_
  refine az_to 3 (pc2 := 128) (lv2 := [some (az_r 34), some (az_i (((zk : Nat) : Int))), some (az_i (za)), some (az_i (zb)), some (az_i (zc))]) (st2 := [az_i (zb), az_i (za), az_r 34]) (s2 := s) rfl ?_
  refine az_cl (m2 := am_m_X10_posts) (as := [az_r 34, az_i (za), az_i (zb)]) (rest := []) 131 rfl rfl ⟨rfl, rfl⟩ (by omega) (zs_X10_posts (s := s) (zt := za) (zb := zb) (by omega) hS hI hh (by first | assumption | exact ⟨by omega, by omega⟩) (by first | assumption | exact ⟨by omega, by omega⟩)) (fun v9 u q9 => ?_) (fun E9 u q9 => by cases q9.1)
  obtain ⟨o9, hu⟩ := q9
  cases o9
  refine az_retI rfl rfl ?_
  exact ⟨rfl, hu⟩
set_option maxRecDepth 100000 in
set_option maxHeartbeats 800000 in
theorem zs_X10_does_4 {d : Nat} {s : az_S} (hd : 6 ≤ d) {S : zR} {h : Nat} (hS : s 35 = S) (hI : zInv S h) (hh : h ≤ 10000) (hh9 : h + 1 ≤ 10000) (h0 : s 34 6 = 0) {zk : Nat} (hc9 : zk ≤ 45) (hk : s 42 zk = 4) {za zb zc zd : Int} (h_0 : s 42 (zk + 1) = za) (h_1 : s 42 (zk + 2) = zb) (h_2 : s 42 (zk + 3) = zc) (h_3 : s 42 (zk + 4) = zd) (h_za : az_in za) (h_zb : az_in zb) : az_R d am_m_X10_does 0 (az_ini (am_mL am_m_X10_does) [az_r 34, az_i (((zk : Nat) : Int))]) [] (s) (zMq s (zo_cross S za zb) 2) := by
  refine az_to 0 (pc2 := 0) (lv2 := [some (az_r 34), some (az_i (((zk : Nat) : Int))), none, none, none]) (st2 := []) (s2 := s) rfl ?_
  refine az_to 5 (pc2 := 7) (lv2 := [some (az_r 34), some (az_i (((zk : Nat) : Int))), none, none, none]) (st2 := [az_i ((((zk : Nat) : Int) + 1)), az_r 42]) (s2 := s) rfl ?_
  refine az_ld_i 8 rfl rfl (by constructor <;> omega) ⟨by decide, rfl⟩ ?_
  refine az_to 0 (pc2 := 8) (lv2 := [some (az_r 34), some (az_i (((zk : Nat) : Int))), none, none, none]) (st2 := [az_i (s 42 (zk + 1))]) (s2 := s) rfl ?_
  refine az_to 0 (pc2 := 8) (lv2 := [some (az_r 34), some (az_i (((zk : Nat) : Int))), none, none, none]) (st2 := [az_i (za)]) (s2 := s) (by rw [show s 42 (zk + 1) = za from h_0]; rfl) ?_
  refine az_to 6 (pc2 := 16) (lv2 := [some (az_r 34), some (az_i (((zk : Nat) : Int))), some (az_i (za)), none, none]) (st2 := [az_i ((((zk : Nat) : Int) + 2)), az_r 42]) (s2 := s) rfl ?_
  refine az_ld_i 17 rfl rfl (by constructor <;> omega) ⟨by decide, rfl⟩ ?_
  refine az_to 0 (pc2 := 17) (lv2 := [some (az_r 34), some (az_i (((zk : Nat) : Int))), some (az_i (za)), none, none]) (st2 := [az_i (s 42 (zk + 2))]) (s2 := s) rfl ?_
  refine az_to 0 (pc2 := 17) (lv2 := [some (az_r 34), some (az_i (((zk : Nat) : Int))), some (az_i (za)), none, none]) (st2 := [az_i (zb)]) (s2 := s) (by rw [show s 42 (zk + 2) = zb from h_1]; rfl) ?_
  refine az_to 6 (pc2 := 25) (lv2 := [some (az_r 34), some (az_i (((zk : Nat) : Int))), some (az_i (za)), some (az_i (zb)), none]) (st2 := [az_i ((((zk : Nat) : Int) + 3)), az_r 42]) (s2 := s) rfl ?_
  refine az_ld_i 26 rfl rfl (by constructor <;> omega) ⟨by decide, rfl⟩ ?_
  refine az_to 0 (pc2 := 26) (lv2 := [some (az_r 34), some (az_i (((zk : Nat) : Int))), some (az_i (za)), some (az_i (zb)), none]) (st2 := [az_i (s 42 (zk + 3))]) (s2 := s) rfl ?_
  refine az_to 0 (pc2 := 26) (lv2 := [some (az_r 34), some (az_i (((zk : Nat) : Int))), some (az_i (za)), some (az_i (zb)), none]) (st2 := [az_i (zc)]) (s2 := s) (by rw [show s 42 (zk + 3) = zc from h_2]; rfl) ?_
  refine az_to 4 (pc2 := 33) (lv2 := [some (az_r 34), some (az_i (((zk : Nat) : Int))), some (az_i (za)), some (az_i (zb)), some (az_i (zc))]) (st2 := [az_i (((zk : Nat) : Int)), az_r 42]) (s2 := s) rfl ?_
  refine az_ld_i 34 rfl rfl (by constructor <;> omega) ⟨by decide, rfl⟩ ?_
  refine az_to 0 (pc2 := 34) (lv2 := [some (az_r 34), some (az_i (((zk : Nat) : Int))), some (az_i (za)), some (az_i (zb)), some (az_i (zc))]) (st2 := [az_i (s 42 zk)]) (s2 := s) rfl ?_
  refine az_to 0 (pc2 := 34) (lv2 := [some (az_r 34), some (az_i (((zk : Nat) : Int))), some (az_i (za)), some (az_i (zb)), some (az_i (zc))]) (st2 := [az_i (4)]) (s2 := s) (by rw [show s 42 zk = 4 from hk]; rfl) ?_
  refine az_swc 132 rfl ⟨by decide, by decide⟩ (by decide) (by rfl) (by decide) ?_
  refine az_to 3 (pc2 := 135) (lv2 := [some (az_r 34), some (az_i (((zk : Nat) : Int))), some (az_i (za)), some (az_i (zb)), some (az_i (zc))]) (st2 := [az_i (zb), az_i (za), az_r 34]) (s2 := s) rfl ?_
  refine az_cl (m2 := am_m_X10_crosses) (as := [az_r 34, az_i (za), az_i (zb)]) (rest := []) 138 rfl rfl ⟨rfl, rfl⟩ (by omega) (zs_X10_crosses (s := s) (zg := za) (zb := zb) (by omega) hS hI hh (by first | assumption | exact ⟨by omega, by omega⟩) (by first | assumption | exact ⟨by omega, by omega⟩)) (fun v9 u q9 => ?_) (fun E9 u q9 => by cases q9.1)
  obtain ⟨o9, hu⟩ := q9
  cases o9
  refine az_retI rfl rfl ?_
  exact ⟨rfl, hu⟩
set_option maxRecDepth 100000 in
set_option maxHeartbeats 800000 in
theorem zs_X10_does_5 {d : Nat} {s : az_S} (hd : 6 ≤ d) {S : zR} {h : Nat} (hS : s 35 = S) (hI : zInv S h) (hh : h ≤ 10000) (hh9 : h + 1 ≤ 10000) (h0 : s 34 6 = 0) {zk : Nat} (hc9 : zk ≤ 45) (hk : s 42 zk = 5) {za zb zc zd : Int} (h_0 : s 42 (zk + 1) = za) (h_1 : s 42 (zk + 2) = zb) (h_2 : s 42 (zk + 3) = zc) (h_3 : s 42 (zk + 4) = zd) (h_za : az_in za) (h_zb : az_in zb) : az_R d am_m_X10_does 0 (az_ini (am_mL am_m_X10_does) [az_r 34, az_i (((zk : Nat) : Int))]) [] (s) (zMq s (zo_dispute S za zb) 2) := by
  refine az_to 0 (pc2 := 0) (lv2 := [some (az_r 34), some (az_i (((zk : Nat) : Int))), none, none, none]) (st2 := []) (s2 := s) rfl ?_
  refine az_to 5 (pc2 := 7) (lv2 := [some (az_r 34), some (az_i (((zk : Nat) : Int))), none, none, none]) (st2 := [az_i ((((zk : Nat) : Int) + 1)), az_r 42]) (s2 := s) rfl ?_
  refine az_ld_i 8 rfl rfl (by constructor <;> omega) ⟨by decide, rfl⟩ ?_
  refine az_to 0 (pc2 := 8) (lv2 := [some (az_r 34), some (az_i (((zk : Nat) : Int))), none, none, none]) (st2 := [az_i (s 42 (zk + 1))]) (s2 := s) rfl ?_
  refine az_to 0 (pc2 := 8) (lv2 := [some (az_r 34), some (az_i (((zk : Nat) : Int))), none, none, none]) (st2 := [az_i (za)]) (s2 := s) (by rw [show s 42 (zk + 1) = za from h_0]; rfl) ?_
  refine az_to 6 (pc2 := 16) (lv2 := [some (az_r 34), some (az_i (((zk : Nat) : Int))), some (az_i (za)), none, none]) (st2 := [az_i ((((zk : Nat) : Int) + 2)), az_r 42]) (s2 := s) rfl ?_
  refine az_ld_i 17 rfl rfl (by constructor <;> omega) ⟨by decide, rfl⟩ ?_
  refine az_to 0 (pc2 := 17) (lv2 := [some (az_r 34), some (az_i (((zk : Nat) : Int))), some (az_i (za)), none, none]) (st2 := [az_i (s 42 (zk + 2))]) (s2 := s) rfl ?_
  refine az_to 0 (pc2 := 17) (lv2 := [some (az_r 34), some (az_i (((zk : Nat) : Int))), some (az_i (za)), none, none]) (st2 := [az_i (zb)]) (s2 := s) (by rw [show s 42 (zk + 2) = zb from h_1]; rfl) ?_
  refine az_to 6 (pc2 := 25) (lv2 := [some (az_r 34), some (az_i (((zk : Nat) : Int))), some (az_i (za)), some (az_i (zb)), none]) (st2 := [az_i ((((zk : Nat) : Int) + 3)), az_r 42]) (s2 := s) rfl ?_
  refine az_ld_i 26 rfl rfl (by constructor <;> omega) ⟨by decide, rfl⟩ ?_
  refine az_to 0 (pc2 := 26) (lv2 := [some (az_r 34), some (az_i (((zk : Nat) : Int))), some (az_i (za)), some (az_i (zb)), none]) (st2 := [az_i (s 42 (zk + 3))]) (s2 := s) rfl ?_
  refine az_to 0 (pc2 := 26) (lv2 := [some (az_r 34), some (az_i (((zk : Nat) : Int))), some (az_i (za)), some (az_i (zb)), none]) (st2 := [az_i (zc)]) (s2 := s) (by rw [show s 42 (zk + 3) = zc from h_2]; rfl) ?_
  refine az_to 4 (pc2 := 33) (lv2 := [some (az_r 34), some (az_i (((zk : Nat) : Int))), some (az_i (za)), some (az_i (zb)), some (az_i (zc))]) (st2 := [az_i (((zk : Nat) : Int)), az_r 42]) (s2 := s) rfl ?_
  refine az_ld_i 34 rfl rfl (by constructor <;> omega) ⟨by decide, rfl⟩ ?_
  refine az_to 0 (pc2 := 34) (lv2 := [some (az_r 34), some (az_i (((zk : Nat) : Int))), some (az_i (za)), some (az_i (zb)), some (az_i (zc))]) (st2 := [az_i (s 42 zk)]) (s2 := s) rfl ?_
  refine az_to 0 (pc2 := 34) (lv2 := [some (az_r 34), some (az_i (((zk : Nat) : Int))), some (az_i (za)), some (az_i (zb)), some (az_i (zc))]) (st2 := [az_i (5)]) (s2 := s) (by rw [show s 42 zk = 5 from hk]; rfl) ?_
  refine az_swc 139 rfl ⟨by decide, by decide⟩ (by decide) (by rfl) (by decide) ?_
  refine az_to 3 (pc2 := 142) (lv2 := [some (az_r 34), some (az_i (((zk : Nat) : Int))), some (az_i (za)), some (az_i (zb)), some (az_i (zc))]) (st2 := [az_i (zb), az_i (za), az_r 34]) (s2 := s) rfl ?_
  refine az_cl (m2 := am_m_X10_disputesAt) (as := [az_r 34, az_i (za), az_i (zb)]) (rest := []) 145 rfl rfl ⟨rfl, rfl⟩ (by omega) (zs_X10_disputesAt (s := s) (zg := za) (zb := zb) (by omega) hS hI hh (by first | assumption | exact ⟨by omega, by omega⟩) (by first | assumption | exact ⟨by omega, by omega⟩)) (fun v9 u q9 => ?_) (fun E9 u q9 => by cases q9.1)
  obtain ⟨o9, hu⟩ := q9
  cases o9
  refine az_retI rfl rfl ?_
  exact ⟨rfl, hu⟩
set_option maxRecDepth 100000 in
set_option maxHeartbeats 800000 in
theorem zs_X10_does_6 {d : Nat} {s : az_S} (hd : 6 ≤ d) {S : zR} {h : Nat} (hS : s 35 = S) (hI : zInv S h) (hh : h ≤ 10000) (hh9 : h + 1 ≤ 10000) (h0 : s 34 6 = 0) {zk : Nat} (hc9 : zk ≤ 45) (hk : s 42 zk = 6) {za zb zc zd : Int} (h_0 : s 42 (zk + 1) = za) (h_1 : s 42 (zk + 2) = zb) (h_2 : s 42 (zk + 3) = zc) (h_3 : s 42 (zk + 4) = zd) (h_za : az_in za) : az_R d am_m_X10_does 0 (az_ini (am_mL am_m_X10_does) [az_r 34, az_i (((zk : Nat) : Int))]) [] (s) (zMq s (zo_leave S za) 2) := by
  refine az_to 0 (pc2 := 0) (lv2 := [some (az_r 34), some (az_i (((zk : Nat) : Int))), none, none, none]) (st2 := []) (s2 := s) rfl ?_
  refine az_to 5 (pc2 := 7) (lv2 := [some (az_r 34), some (az_i (((zk : Nat) : Int))), none, none, none]) (st2 := [az_i ((((zk : Nat) : Int) + 1)), az_r 42]) (s2 := s) rfl ?_
  refine az_ld_i 8 rfl rfl (by constructor <;> omega) ⟨by decide, rfl⟩ ?_
  refine az_to 0 (pc2 := 8) (lv2 := [some (az_r 34), some (az_i (((zk : Nat) : Int))), none, none, none]) (st2 := [az_i (s 42 (zk + 1))]) (s2 := s) rfl ?_
  refine az_to 0 (pc2 := 8) (lv2 := [some (az_r 34), some (az_i (((zk : Nat) : Int))), none, none, none]) (st2 := [az_i (za)]) (s2 := s) (by rw [show s 42 (zk + 1) = za from h_0]; rfl) ?_
  refine az_to 6 (pc2 := 16) (lv2 := [some (az_r 34), some (az_i (((zk : Nat) : Int))), some (az_i (za)), none, none]) (st2 := [az_i ((((zk : Nat) : Int) + 2)), az_r 42]) (s2 := s) rfl ?_
  refine az_ld_i 17 rfl rfl (by constructor <;> omega) ⟨by decide, rfl⟩ ?_
  refine az_to 0 (pc2 := 17) (lv2 := [some (az_r 34), some (az_i (((zk : Nat) : Int))), some (az_i (za)), none, none]) (st2 := [az_i (s 42 (zk + 2))]) (s2 := s) rfl ?_
  refine az_to 0 (pc2 := 17) (lv2 := [some (az_r 34), some (az_i (((zk : Nat) : Int))), some (az_i (za)), none, none]) (st2 := [az_i (zb)]) (s2 := s) (by rw [show s 42 (zk + 2) = zb from h_1]; rfl) ?_
  refine az_to 6 (pc2 := 25) (lv2 := [some (az_r 34), some (az_i (((zk : Nat) : Int))), some (az_i (za)), some (az_i (zb)), none]) (st2 := [az_i ((((zk : Nat) : Int) + 3)), az_r 42]) (s2 := s) rfl ?_
  refine az_ld_i 26 rfl rfl (by constructor <;> omega) ⟨by decide, rfl⟩ ?_
  refine az_to 0 (pc2 := 26) (lv2 := [some (az_r 34), some (az_i (((zk : Nat) : Int))), some (az_i (za)), some (az_i (zb)), none]) (st2 := [az_i (s 42 (zk + 3))]) (s2 := s) rfl ?_
  refine az_to 0 (pc2 := 26) (lv2 := [some (az_r 34), some (az_i (((zk : Nat) : Int))), some (az_i (za)), some (az_i (zb)), none]) (st2 := [az_i (zc)]) (s2 := s) (by rw [show s 42 (zk + 3) = zc from h_2]; rfl) ?_
  refine az_to 4 (pc2 := 33) (lv2 := [some (az_r 34), some (az_i (((zk : Nat) : Int))), some (az_i (za)), some (az_i (zb)), some (az_i (zc))]) (st2 := [az_i (((zk : Nat) : Int)), az_r 42]) (s2 := s) rfl ?_
  refine az_ld_i 34 rfl rfl (by constructor <;> omega) ⟨by decide, rfl⟩ ?_
  refine az_to 0 (pc2 := 34) (lv2 := [some (az_r 34), some (az_i (((zk : Nat) : Int))), some (az_i (za)), some (az_i (zb)), some (az_i (zc))]) (st2 := [az_i (s 42 zk)]) (s2 := s) rfl ?_
  refine az_to 0 (pc2 := 34) (lv2 := [some (az_r 34), some (az_i (((zk : Nat) : Int))), some (az_i (za)), some (az_i (zb)), some (az_i (zc))]) (st2 := [az_i (6)]) (s2 := s) (by rw [show s 42 zk = 6 from hk]; rfl) ?_
  refine az_swc 146 rfl ⟨by decide, by decide⟩ (by decide) (by rfl) (by decide) ?_
  refine az_to 2 (pc2 := 148) (lv2 := [some (az_r 34), some (az_i (((zk : Nat) : Int))), some (az_i (za)), some (az_i (zb)), some (az_i (zc))]) (st2 := [az_i (za), az_r 34]) (s2 := s) rfl ?_
  refine az_cl (m2 := am_m_X10_leaves) (as := [az_r 34, az_i (za)]) (rest := []) 151 rfl rfl ⟨rfl, rfl⟩ (by omega) (zs_X10_leaves (s := s) (zt := za) (by omega) hS hI hh (by first | assumption | exact ⟨by omega, by omega⟩)) (fun v9 u q9 => ?_) (fun E9 u q9 => by cases q9.1)
  obtain ⟨o9, hu⟩ := q9
  cases o9
  refine az_retI rfl rfl ?_
  exact ⟨rfl, hu⟩
set_option maxRecDepth 100000 in
set_option maxHeartbeats 800000 in
theorem zs_X10_does_7 {d : Nat} {s : az_S} (hd : 6 ≤ d) {S : zR} {h : Nat} (hS : s 35 = S) (hI : zInv S h) (hh : h ≤ 10000) (hh9 : h + 1 ≤ 10000) (h0 : s 34 6 = 0) {zk : Nat} (hc9 : zk ≤ 45) (hk : s 42 zk = 7) {za zb zc zd : Int} (h_0 : s 42 (zk + 1) = za) (h_1 : s 42 (zk + 2) = zb) (h_2 : s 42 (zk + 3) = zc) (h_3 : s 42 (zk + 4) = zd) (h_za : az_in za) : az_R d am_m_X10_does 0 (az_ini (am_mL am_m_X10_does) [az_r 34, az_i (((zk : Nat) : Int))]) [] (s) (zMq s (zo_strike S za 1) 2) := by
  refine az_to 0 (pc2 := 0) (lv2 := [some (az_r 34), some (az_i (((zk : Nat) : Int))), none, none, none]) (st2 := []) (s2 := s) rfl ?_
  refine az_to 5 (pc2 := 7) (lv2 := [some (az_r 34), some (az_i (((zk : Nat) : Int))), none, none, none]) (st2 := [az_i ((((zk : Nat) : Int) + 1)), az_r 42]) (s2 := s) rfl ?_
  refine az_ld_i 8 rfl rfl (by constructor <;> omega) ⟨by decide, rfl⟩ ?_
  refine az_to 0 (pc2 := 8) (lv2 := [some (az_r 34), some (az_i (((zk : Nat) : Int))), none, none, none]) (st2 := [az_i (s 42 (zk + 1))]) (s2 := s) rfl ?_
  refine az_to 0 (pc2 := 8) (lv2 := [some (az_r 34), some (az_i (((zk : Nat) : Int))), none, none, none]) (st2 := [az_i (za)]) (s2 := s) (by rw [show s 42 (zk + 1) = za from h_0]; rfl) ?_
  refine az_to 6 (pc2 := 16) (lv2 := [some (az_r 34), some (az_i (((zk : Nat) : Int))), some (az_i (za)), none, none]) (st2 := [az_i ((((zk : Nat) : Int) + 2)), az_r 42]) (s2 := s) rfl ?_
  refine az_ld_i 17 rfl rfl (by constructor <;> omega) ⟨by decide, rfl⟩ ?_
  refine az_to 0 (pc2 := 17) (lv2 := [some (az_r 34), some (az_i (((zk : Nat) : Int))), some (az_i (za)), none, none]) (st2 := [az_i (s 42 (zk + 2))]) (s2 := s) rfl ?_
  refine az_to 0 (pc2 := 17) (lv2 := [some (az_r 34), some (az_i (((zk : Nat) : Int))), some (az_i (za)), none, none]) (st2 := [az_i (zb)]) (s2 := s) (by rw [show s 42 (zk + 2) = zb from h_1]; rfl) ?_
  refine az_to 6 (pc2 := 25) (lv2 := [some (az_r 34), some (az_i (((zk : Nat) : Int))), some (az_i (za)), some (az_i (zb)), none]) (st2 := [az_i ((((zk : Nat) : Int) + 3)), az_r 42]) (s2 := s) rfl ?_
  refine az_ld_i 26 rfl rfl (by constructor <;> omega) ⟨by decide, rfl⟩ ?_
  refine az_to 0 (pc2 := 26) (lv2 := [some (az_r 34), some (az_i (((zk : Nat) : Int))), some (az_i (za)), some (az_i (zb)), none]) (st2 := [az_i (s 42 (zk + 3))]) (s2 := s) rfl ?_
  refine az_to 0 (pc2 := 26) (lv2 := [some (az_r 34), some (az_i (((zk : Nat) : Int))), some (az_i (za)), some (az_i (zb)), none]) (st2 := [az_i (zc)]) (s2 := s) (by rw [show s 42 (zk + 3) = zc from h_2]; rfl) ?_
  refine az_to 4 (pc2 := 33) (lv2 := [some (az_r 34), some (az_i (((zk : Nat) : Int))), some (az_i (za)), some (az_i (zb)), some (az_i (zc))]) (st2 := [az_i (((zk : Nat) : Int)), az_r 42]) (s2 := s) rfl ?_
  refine az_ld_i 34 rfl rfl (by constructor <;> omega) ⟨by decide, rfl⟩ ?_
  refine az_to 0 (pc2 := 34) (lv2 := [some (az_r 34), some (az_i (((zk : Nat) : Int))), some (az_i (za)), some (az_i (zb)), some (az_i (zc))]) (st2 := [az_i (s 42 zk)]) (s2 := s) rfl ?_
  refine az_to 0 (pc2 := 34) (lv2 := [some (az_r 34), some (az_i (((zk : Nat) : Int))), some (az_i (za)), some (az_i (zb)), some (az_i (zc))]) (st2 := [az_i (7)]) (s2 := s) (by rw [show s 42 zk = 7 from hk]; rfl) ?_
  refine az_swc 152 rfl ⟨by decide, by decide⟩ (by decide) (by rfl) (by decide) ?_
  refine az_to 3 (pc2 := 155) (lv2 := [some (az_r 34), some (az_i (((zk : Nat) : Int))), some (az_i (za)), some (az_i (zb)), some (az_i (zc))]) (st2 := [az_i (1), az_i (za), az_r 34]) (s2 := s) rfl ?_
  refine az_cl (m2 := am_m_X10_strikes) (as := [az_r 34, az_i (za), az_i (1)]) (rest := []) 158 rfl rfl ⟨rfl, rfl⟩ (by omega) (zs_X10_strikes_1 (s := s) (zg := za) (by omega) hS hI hh (by first | assumption | exact ⟨by omega, by omega⟩)) (fun v9 u q9 => ?_) (fun E9 u q9 => by cases q9.1)
  obtain ⟨o9, hu⟩ := q9
  cases o9
  refine az_retI rfl rfl ?_
  exact ⟨rfl, hu⟩
set_option maxRecDepth 100000 in
set_option maxHeartbeats 800000 in
theorem zs_X10_does_8 {d : Nat} {s : az_S} (hd : 6 ≤ d) {S : zR} {h : Nat} (hS : s 35 = S) (hI : zInv S h) (hh : h ≤ 10000) (hh9 : h + 1 ≤ 10000) (h0 : s 34 6 = 0) {zk : Nat} (hc9 : zk ≤ 45) (hk : s 42 zk = 8) {za zb zc zd : Int} (h_0 : s 42 (zk + 1) = za) (h_1 : s 42 (zk + 2) = zb) (h_2 : s 42 (zk + 3) = zc) (h_3 : s 42 (zk + 4) = zd) (h_za : az_in za) : az_R d am_m_X10_does 0 (az_ini (am_mL am_m_X10_does) [az_r 34, az_i (((zk : Nat) : Int))]) [] (s) (zMq s (zo_strike S za 0) 2) := by
  refine az_to 0 (pc2 := 0) (lv2 := [some (az_r 34), some (az_i (((zk : Nat) : Int))), none, none, none]) (st2 := []) (s2 := s) rfl ?_
  refine az_to 5 (pc2 := 7) (lv2 := [some (az_r 34), some (az_i (((zk : Nat) : Int))), none, none, none]) (st2 := [az_i ((((zk : Nat) : Int) + 1)), az_r 42]) (s2 := s) rfl ?_
  refine az_ld_i 8 rfl rfl (by constructor <;> omega) ⟨by decide, rfl⟩ ?_
  refine az_to 0 (pc2 := 8) (lv2 := [some (az_r 34), some (az_i (((zk : Nat) : Int))), none, none, none]) (st2 := [az_i (s 42 (zk + 1))]) (s2 := s) rfl ?_
  refine az_to 0 (pc2 := 8) (lv2 := [some (az_r 34), some (az_i (((zk : Nat) : Int))), none, none, none]) (st2 := [az_i (za)]) (s2 := s) (by rw [show s 42 (zk + 1) = za from h_0]; rfl) ?_
  refine az_to 6 (pc2 := 16) (lv2 := [some (az_r 34), some (az_i (((zk : Nat) : Int))), some (az_i (za)), none, none]) (st2 := [az_i ((((zk : Nat) : Int) + 2)), az_r 42]) (s2 := s) rfl ?_
  refine az_ld_i 17 rfl rfl (by constructor <;> omega) ⟨by decide, rfl⟩ ?_
  refine az_to 0 (pc2 := 17) (lv2 := [some (az_r 34), some (az_i (((zk : Nat) : Int))), some (az_i (za)), none, none]) (st2 := [az_i (s 42 (zk + 2))]) (s2 := s) rfl ?_
  refine az_to 0 (pc2 := 17) (lv2 := [some (az_r 34), some (az_i (((zk : Nat) : Int))), some (az_i (za)), none, none]) (st2 := [az_i (zb)]) (s2 := s) (by rw [show s 42 (zk + 2) = zb from h_1]; rfl) ?_
  refine az_to 6 (pc2 := 25) (lv2 := [some (az_r 34), some (az_i (((zk : Nat) : Int))), some (az_i (za)), some (az_i (zb)), none]) (st2 := [az_i ((((zk : Nat) : Int) + 3)), az_r 42]) (s2 := s) rfl ?_
  refine az_ld_i 26 rfl rfl (by constructor <;> omega) ⟨by decide, rfl⟩ ?_
  refine az_to 0 (pc2 := 26) (lv2 := [some (az_r 34), some (az_i (((zk : Nat) : Int))), some (az_i (za)), some (az_i (zb)), none]) (st2 := [az_i (s 42 (zk + 3))]) (s2 := s) rfl ?_
  refine az_to 0 (pc2 := 26) (lv2 := [some (az_r 34), some (az_i (((zk : Nat) : Int))), some (az_i (za)), some (az_i (zb)), none]) (st2 := [az_i (zc)]) (s2 := s) (by rw [show s 42 (zk + 3) = zc from h_2]; rfl) ?_
  refine az_to 4 (pc2 := 33) (lv2 := [some (az_r 34), some (az_i (((zk : Nat) : Int))), some (az_i (za)), some (az_i (zb)), some (az_i (zc))]) (st2 := [az_i (((zk : Nat) : Int)), az_r 42]) (s2 := s) rfl ?_
  refine az_ld_i 34 rfl rfl (by constructor <;> omega) ⟨by decide, rfl⟩ ?_
  refine az_to 0 (pc2 := 34) (lv2 := [some (az_r 34), some (az_i (((zk : Nat) : Int))), some (az_i (za)), some (az_i (zb)), some (az_i (zc))]) (st2 := [az_i (s 42 zk)]) (s2 := s) rfl ?_
  refine az_to 0 (pc2 := 34) (lv2 := [some (az_r 34), some (az_i (((zk : Nat) : Int))), some (az_i (za)), some (az_i (zb)), some (az_i (zc))]) (st2 := [az_i (8)]) (s2 := s) (by rw [show s 42 zk = 8 from hk]; rfl) ?_
  refine az_swc 159 rfl ⟨by decide, by decide⟩ (by decide) (by rfl) (by decide) ?_
  refine az_to 3 (pc2 := 162) (lv2 := [some (az_r 34), some (az_i (((zk : Nat) : Int))), some (az_i (za)), some (az_i (zb)), some (az_i (zc))]) (st2 := [az_i (0), az_i (za), az_r 34]) (s2 := s) rfl ?_
  refine az_cl (m2 := am_m_X10_strikes) (as := [az_r 34, az_i (za), az_i (0)]) (rest := []) 165 rfl rfl ⟨rfl, rfl⟩ (by omega) (zs_X10_strikes_0 (s := s) (zg := za) (by omega) hS hI hh (by first | assumption | exact ⟨by omega, by omega⟩)) (fun v9 u q9 => ?_) (fun E9 u q9 => by cases q9.1)
  obtain ⟨o9, hu⟩ := q9
  cases o9
  refine az_retI rfl rfl ?_
  exact ⟨rfl, hu⟩
set_option maxRecDepth 100000 in
set_option maxHeartbeats 800000 in
theorem zs_X10_does_9 {d : Nat} {s : az_S} (hd : 6 ≤ d) {S : zR} {h : Nat} (hS : s 35 = S) (hI : zInv S h) (hh : h ≤ 10000) (hh9 : h + 1 ≤ 10000) (h0 : s 34 6 = 0) {zk : Nat} (hc9 : zk ≤ 45) (hk : s 42 zk = 9) {za zb zc zd : Int} (h_0 : s 42 (zk + 1) = za) (h_1 : s 42 (zk + 2) = zb) (h_2 : s 42 (zk + 3) = zc) (h_3 : s 42 (zk + 4) = zd) (h_za : az_in za) (h_zb : az_in zb) (h_zc : az_in zc) : az_R d am_m_X10_does 0 (az_ini (am_mL am_m_X10_does) [az_r 34, az_i (((zk : Nat) : Int))]) [] (s) (zMq s (zo_riddle S za zb zc) 2) := by
  refine az_to 0 (pc2 := 0) (lv2 := [some (az_r 34), some (az_i (((zk : Nat) : Int))), none, none, none]) (st2 := []) (s2 := s) rfl ?_
  refine az_to 5 (pc2 := 7) (lv2 := [some (az_r 34), some (az_i (((zk : Nat) : Int))), none, none, none]) (st2 := [az_i ((((zk : Nat) : Int) + 1)), az_r 42]) (s2 := s) rfl ?_
  refine az_ld_i 8 rfl rfl (by constructor <;> omega) ⟨by decide, rfl⟩ ?_
  refine az_to 0 (pc2 := 8) (lv2 := [some (az_r 34), some (az_i (((zk : Nat) : Int))), none, none, none]) (st2 := [az_i (s 42 (zk + 1))]) (s2 := s) rfl ?_
  refine az_to 0 (pc2 := 8) (lv2 := [some (az_r 34), some (az_i (((zk : Nat) : Int))), none, none, none]) (st2 := [az_i (za)]) (s2 := s) (by rw [show s 42 (zk + 1) = za from h_0]; rfl) ?_
  refine az_to 6 (pc2 := 16) (lv2 := [some (az_r 34), some (az_i (((zk : Nat) : Int))), some (az_i (za)), none, none]) (st2 := [az_i ((((zk : Nat) : Int) + 2)), az_r 42]) (s2 := s) rfl ?_
  refine az_ld_i 17 rfl rfl (by constructor <;> omega) ⟨by decide, rfl⟩ ?_
  refine az_to 0 (pc2 := 17) (lv2 := [some (az_r 34), some (az_i (((zk : Nat) : Int))), some (az_i (za)), none, none]) (st2 := [az_i (s 42 (zk + 2))]) (s2 := s) rfl ?_
  refine az_to 0 (pc2 := 17) (lv2 := [some (az_r 34), some (az_i (((zk : Nat) : Int))), some (az_i (za)), none, none]) (st2 := [az_i (zb)]) (s2 := s) (by rw [show s 42 (zk + 2) = zb from h_1]; rfl) ?_
  refine az_to 6 (pc2 := 25) (lv2 := [some (az_r 34), some (az_i (((zk : Nat) : Int))), some (az_i (za)), some (az_i (zb)), none]) (st2 := [az_i ((((zk : Nat) : Int) + 3)), az_r 42]) (s2 := s) rfl ?_
  refine az_ld_i 26 rfl rfl (by constructor <;> omega) ⟨by decide, rfl⟩ ?_
  refine az_to 0 (pc2 := 26) (lv2 := [some (az_r 34), some (az_i (((zk : Nat) : Int))), some (az_i (za)), some (az_i (zb)), none]) (st2 := [az_i (s 42 (zk + 3))]) (s2 := s) rfl ?_
  refine az_to 0 (pc2 := 26) (lv2 := [some (az_r 34), some (az_i (((zk : Nat) : Int))), some (az_i (za)), some (az_i (zb)), none]) (st2 := [az_i (zc)]) (s2 := s) (by rw [show s 42 (zk + 3) = zc from h_2]; rfl) ?_
  refine az_to 4 (pc2 := 33) (lv2 := [some (az_r 34), some (az_i (((zk : Nat) : Int))), some (az_i (za)), some (az_i (zb)), some (az_i (zc))]) (st2 := [az_i (((zk : Nat) : Int)), az_r 42]) (s2 := s) rfl ?_
  refine az_ld_i 34 rfl rfl (by constructor <;> omega) ⟨by decide, rfl⟩ ?_
  refine az_to 0 (pc2 := 34) (lv2 := [some (az_r 34), some (az_i (((zk : Nat) : Int))), some (az_i (za)), some (az_i (zb)), some (az_i (zc))]) (st2 := [az_i (s 42 zk)]) (s2 := s) rfl ?_
  refine az_to 0 (pc2 := 34) (lv2 := [some (az_r 34), some (az_i (((zk : Nat) : Int))), some (az_i (za)), some (az_i (zb)), some (az_i (zc))]) (st2 := [az_i (9)]) (s2 := s) (by rw [show s 42 zk = 9 from hk]; rfl) ?_
  refine az_swc 166 rfl ⟨by decide, by decide⟩ (by decide) (by rfl) (by decide) ?_
  refine az_to 4 (pc2 := 171) (lv2 := [some (az_r 34), some (az_i (((zk : Nat) : Int))), some (az_i (za)), some (az_i (zb)), some (az_i (zc))]) (st2 := [az_i (zc), az_i (zb), az_i (za), az_r 34]) (s2 := s) rfl ?_
  refine az_cl (m2 := am_m_X10_riddles) (as := [az_r 34, az_i (za), az_i (zb), az_i (zc)]) (rest := []) 174 rfl rfl ⟨rfl, rfl⟩ (by omega) (zs_X10_riddles (s := s) (zt := za) (zd := zb) (zn0 := zc) (by omega) hS hI hh (by first | assumption | exact ⟨by omega, by omega⟩) (by first | assumption | exact ⟨by omega, by omega⟩) (by first | assumption | exact ⟨by omega, by omega⟩)) (fun v9 u q9 => ?_) (fun E9 u q9 => by cases q9.1)
  obtain ⟨o9, hu⟩ := q9
  cases o9
  refine az_retI rfl rfl ?_
  exact ⟨rfl, hu⟩
set_option maxRecDepth 100000 in
set_option maxHeartbeats 800000 in
theorem zs_X10_does_10 {d : Nat} {s : az_S} (hd : 6 ≤ d) {S : zR} {h : Nat} (hS : s 35 = S) (hI : zInv S h) (hh : h ≤ 10000) (hh9 : h + 1 ≤ 10000) (h0 : s 34 6 = 0) {zk : Nat} (hc9 : zk ≤ 45) (hk : s 42 zk = 10) {za zb zc zd : Int} (h_0 : s 42 (zk + 1) = za) (h_1 : s 42 (zk + 2) = zb) (h_2 : s 42 (zk + 3) = zc) (h_3 : s 42 (zk + 4) = zd) (h_za : az_in za) (h_zb : az_in zb) : az_R d am_m_X10_does 0 (az_ini (am_mL am_m_X10_does) [az_r 34, az_i (((zk : Nat) : Int))]) [] (s) (zMq s (zo_fog S za zb) 2) := by
  refine az_to 0 (pc2 := 0) (lv2 := [some (az_r 34), some (az_i (((zk : Nat) : Int))), none, none, none]) (st2 := []) (s2 := s) rfl ?_
  refine az_to 5 (pc2 := 7) (lv2 := [some (az_r 34), some (az_i (((zk : Nat) : Int))), none, none, none]) (st2 := [az_i ((((zk : Nat) : Int) + 1)), az_r 42]) (s2 := s) rfl ?_
  refine az_ld_i 8 rfl rfl (by constructor <;> omega) ⟨by decide, rfl⟩ ?_
  refine az_to 0 (pc2 := 8) (lv2 := [some (az_r 34), some (az_i (((zk : Nat) : Int))), none, none, none]) (st2 := [az_i (s 42 (zk + 1))]) (s2 := s) rfl ?_
  refine az_to 0 (pc2 := 8) (lv2 := [some (az_r 34), some (az_i (((zk : Nat) : Int))), none, none, none]) (st2 := [az_i (za)]) (s2 := s) (by rw [show s 42 (zk + 1) = za from h_0]; rfl) ?_
  refine az_to 6 (pc2 := 16) (lv2 := [some (az_r 34), some (az_i (((zk : Nat) : Int))), some (az_i (za)), none, none]) (st2 := [az_i ((((zk : Nat) : Int) + 2)), az_r 42]) (s2 := s) rfl ?_
  refine az_ld_i 17 rfl rfl (by constructor <;> omega) ⟨by decide, rfl⟩ ?_
  refine az_to 0 (pc2 := 17) (lv2 := [some (az_r 34), some (az_i (((zk : Nat) : Int))), some (az_i (za)), none, none]) (st2 := [az_i (s 42 (zk + 2))]) (s2 := s) rfl ?_
  refine az_to 0 (pc2 := 17) (lv2 := [some (az_r 34), some (az_i (((zk : Nat) : Int))), some (az_i (za)), none, none]) (st2 := [az_i (zb)]) (s2 := s) (by rw [show s 42 (zk + 2) = zb from h_1]; rfl) ?_
  refine az_to 6 (pc2 := 25) (lv2 := [some (az_r 34), some (az_i (((zk : Nat) : Int))), some (az_i (za)), some (az_i (zb)), none]) (st2 := [az_i ((((zk : Nat) : Int) + 3)), az_r 42]) (s2 := s) rfl ?_
  refine az_ld_i 26 rfl rfl (by constructor <;> omega) ⟨by decide, rfl⟩ ?_
  refine az_to 0 (pc2 := 26) (lv2 := [some (az_r 34), some (az_i (((zk : Nat) : Int))), some (az_i (za)), some (az_i (zb)), none]) (st2 := [az_i (s 42 (zk + 3))]) (s2 := s) rfl ?_
  refine az_to 0 (pc2 := 26) (lv2 := [some (az_r 34), some (az_i (((zk : Nat) : Int))), some (az_i (za)), some (az_i (zb)), none]) (st2 := [az_i (zc)]) (s2 := s) (by rw [show s 42 (zk + 3) = zc from h_2]; rfl) ?_
  refine az_to 4 (pc2 := 33) (lv2 := [some (az_r 34), some (az_i (((zk : Nat) : Int))), some (az_i (za)), some (az_i (zb)), some (az_i (zc))]) (st2 := [az_i (((zk : Nat) : Int)), az_r 42]) (s2 := s) rfl ?_
  refine az_ld_i 34 rfl rfl (by constructor <;> omega) ⟨by decide, rfl⟩ ?_
  refine az_to 0 (pc2 := 34) (lv2 := [some (az_r 34), some (az_i (((zk : Nat) : Int))), some (az_i (za)), some (az_i (zb)), some (az_i (zc))]) (st2 := [az_i (s 42 zk)]) (s2 := s) rfl ?_
  refine az_to 0 (pc2 := 34) (lv2 := [some (az_r 34), some (az_i (((zk : Nat) : Int))), some (az_i (za)), some (az_i (zb)), some (az_i (zc))]) (st2 := [az_i (10)]) (s2 := s) (by rw [show s 42 zk = 10 from hk]; rfl) ?_
  refine az_swc 175 rfl ⟨by decide, by decide⟩ (by decide) (by rfl) (by decide) ?_
  refine az_to 3 (pc2 := 178) (lv2 := [some (az_r 34), some (az_i (((zk : Nat) : Int))), some (az_i (za)), some (az_i (zb)), some (az_i (zc))]) (st2 := [az_i (zb), az_i (za), az_r 34]) (s2 := s) rfl ?_
  refine az_cl (m2 := am_m_X10_fogs) (as := [az_r 34, az_i (za), az_i (zb)]) (rest := []) 181 rfl rfl ⟨rfl, rfl⟩ (by omega) (zs_X10_fogs (s := s) (zb := za) (zn0 := zb) (by omega) hS hI hh (by first | assumption | exact ⟨by omega, by omega⟩) (by first | assumption | exact ⟨by omega, by omega⟩)) (fun v9 u q9 => ?_) (fun E9 u q9 => by cases q9.1)
  obtain ⟨o9, hu⟩ := q9
  cases o9
  refine az_retI rfl rfl ?_
  exact ⟨rfl, hu⟩
set_option maxRecDepth 100000 in
set_option maxHeartbeats 800000 in
theorem zs_X10_does_11a {d : Nat} {s : az_S} (hd : 6 ≤ d) {S : zR} {h : Nat} (hS : s 35 = S) (hI : zInv S h) (hh : h ≤ 10000) (hh9 : h + 1 ≤ 10000) (h0 : s 34 6 = 0) {zk : Nat} (hc9 : zk ≤ 45) (hk : s 42 zk = 11) {za zc zd : Int} (h_0 : s 42 (zk + 1) = za) (h_1 : s 42 (zk + 2) = 1) (h_2 : s 42 (zk + 3) = zc) (h_3 : s 42 (zk + 4) = zd) (h_za : az_in za) : az_R d am_m_X10_does 0 (az_ini (am_mL am_m_X10_does) [az_r 34, az_i (((zk : Nat) : Int))]) [] (s) (zMq s (zo_settle S za 1) 2) := by
  refine az_to 0 (pc2 := 0) (lv2 := [some (az_r 34), some (az_i (((zk : Nat) : Int))), none, none, none]) (st2 := []) (s2 := s) rfl ?_
  refine az_to 5 (pc2 := 7) (lv2 := [some (az_r 34), some (az_i (((zk : Nat) : Int))), none, none, none]) (st2 := [az_i ((((zk : Nat) : Int) + 1)), az_r 42]) (s2 := s) rfl ?_
  refine az_ld_i 8 rfl rfl (by constructor <;> omega) ⟨by decide, rfl⟩ ?_
  refine az_to 0 (pc2 := 8) (lv2 := [some (az_r 34), some (az_i (((zk : Nat) : Int))), none, none, none]) (st2 := [az_i (s 42 (zk + 1))]) (s2 := s) rfl ?_
  refine az_to 0 (pc2 := 8) (lv2 := [some (az_r 34), some (az_i (((zk : Nat) : Int))), none, none, none]) (st2 := [az_i (za)]) (s2 := s) (by rw [show s 42 (zk + 1) = za from h_0]; rfl) ?_
  refine az_to 6 (pc2 := 16) (lv2 := [some (az_r 34), some (az_i (((zk : Nat) : Int))), some (az_i (za)), none, none]) (st2 := [az_i ((((zk : Nat) : Int) + 2)), az_r 42]) (s2 := s) rfl ?_
  refine az_ld_i 17 rfl rfl (by constructor <;> omega) ⟨by decide, rfl⟩ ?_
  refine az_to 0 (pc2 := 17) (lv2 := [some (az_r 34), some (az_i (((zk : Nat) : Int))), some (az_i (za)), none, none]) (st2 := [az_i (s 42 (zk + 2))]) (s2 := s) rfl ?_
  refine az_to 0 (pc2 := 17) (lv2 := [some (az_r 34), some (az_i (((zk : Nat) : Int))), some (az_i (za)), none, none]) (st2 := [az_i (1)]) (s2 := s) (by rw [show s 42 (zk + 2) = 1 from h_1]; rfl) ?_
  refine az_to 6 (pc2 := 25) (lv2 := [some (az_r 34), some (az_i (((zk : Nat) : Int))), some (az_i (za)), some (az_i (1)), none]) (st2 := [az_i ((((zk : Nat) : Int) + 3)), az_r 42]) (s2 := s) rfl ?_
  refine az_ld_i 26 rfl rfl (by constructor <;> omega) ⟨by decide, rfl⟩ ?_
  refine az_to 0 (pc2 := 26) (lv2 := [some (az_r 34), some (az_i (((zk : Nat) : Int))), some (az_i (za)), some (az_i (1)), none]) (st2 := [az_i (s 42 (zk + 3))]) (s2 := s) rfl ?_
  refine az_to 0 (pc2 := 26) (lv2 := [some (az_r 34), some (az_i (((zk : Nat) : Int))), some (az_i (za)), some (az_i (1)), none]) (st2 := [az_i (zc)]) (s2 := s) (by rw [show s 42 (zk + 3) = zc from h_2]; rfl) ?_
  refine az_to 4 (pc2 := 33) (lv2 := [some (az_r 34), some (az_i (((zk : Nat) : Int))), some (az_i (za)), some (az_i (1)), some (az_i (zc))]) (st2 := [az_i (((zk : Nat) : Int)), az_r 42]) (s2 := s) rfl ?_
  refine az_ld_i 34 rfl rfl (by constructor <;> omega) ⟨by decide, rfl⟩ ?_
  refine az_to 0 (pc2 := 34) (lv2 := [some (az_r 34), some (az_i (((zk : Nat) : Int))), some (az_i (za)), some (az_i (1)), some (az_i (zc))]) (st2 := [az_i (s 42 zk)]) (s2 := s) rfl ?_
  refine az_to 0 (pc2 := 34) (lv2 := [some (az_r 34), some (az_i (((zk : Nat) : Int))), some (az_i (za)), some (az_i (1)), some (az_i (zc))]) (st2 := [az_i (11)]) (s2 := s) (by rw [show s 42 zk = 11 from hk]; rfl) ?_
  refine az_swc 182 rfl ⟨by decide, by decide⟩ (by decide) (by rfl) (by decide) ?_
  refine az_to 3 (pc2 := 185) (lv2 := [some (az_r 34), some (az_i (((zk : Nat) : Int))), some (az_i (za)), some (az_i (1)), some (az_i (zc))]) (st2 := [az_i (1), az_i (za), az_r 34]) (s2 := s) rfl ?_
  refine az_cl (m2 := am_m_X10_settles) (as := [az_r 34, az_i (za), az_i (1)]) (rest := []) 188 rfl rfl ⟨rfl, rfl⟩ (by omega) (zs_X10_settles_1 (s := s) (zb := za) (by omega) hS hI hh (by first | assumption | exact ⟨by omega, by omega⟩)) (fun v9 u q9 => ?_) (fun E9 u q9 => by cases q9.1)
  obtain ⟨o9, hu⟩ := q9
  cases o9
  refine az_retI rfl rfl ?_
  exact ⟨rfl, hu⟩
set_option maxRecDepth 100000 in
set_option maxHeartbeats 800000 in
theorem zs_X10_does_11b {d : Nat} {s : az_S} (hd : 6 ≤ d) {S : zR} {h : Nat} (hS : s 35 = S) (hI : zInv S h) (hh : h ≤ 10000) (hh9 : h + 1 ≤ 10000) (h0 : s 34 6 = 0) {zk : Nat} (hc9 : zk ≤ 45) (hk : s 42 zk = 11) {za zc zd : Int} (h_0 : s 42 (zk + 1) = za) (h_1 : s 42 (zk + 2) = 0) (h_2 : s 42 (zk + 3) = zc) (h_3 : s 42 (zk + 4) = zd) (h_za : az_in za) : az_R d am_m_X10_does 0 (az_ini (am_mL am_m_X10_does) [az_r 34, az_i (((zk : Nat) : Int))]) [] (s) (zMq s (zo_settle S za 0) 2) := by
  refine az_to 0 (pc2 := 0) (lv2 := [some (az_r 34), some (az_i (((zk : Nat) : Int))), none, none, none]) (st2 := []) (s2 := s) rfl ?_
  refine az_to 5 (pc2 := 7) (lv2 := [some (az_r 34), some (az_i (((zk : Nat) : Int))), none, none, none]) (st2 := [az_i ((((zk : Nat) : Int) + 1)), az_r 42]) (s2 := s) rfl ?_
  refine az_ld_i 8 rfl rfl (by constructor <;> omega) ⟨by decide, rfl⟩ ?_
  refine az_to 0 (pc2 := 8) (lv2 := [some (az_r 34), some (az_i (((zk : Nat) : Int))), none, none, none]) (st2 := [az_i (s 42 (zk + 1))]) (s2 := s) rfl ?_
  refine az_to 0 (pc2 := 8) (lv2 := [some (az_r 34), some (az_i (((zk : Nat) : Int))), none, none, none]) (st2 := [az_i (za)]) (s2 := s) (by rw [show s 42 (zk + 1) = za from h_0]; rfl) ?_
  refine az_to 6 (pc2 := 16) (lv2 := [some (az_r 34), some (az_i (((zk : Nat) : Int))), some (az_i (za)), none, none]) (st2 := [az_i ((((zk : Nat) : Int) + 2)), az_r 42]) (s2 := s) rfl ?_
  refine az_ld_i 17 rfl rfl (by constructor <;> omega) ⟨by decide, rfl⟩ ?_
  refine az_to 0 (pc2 := 17) (lv2 := [some (az_r 34), some (az_i (((zk : Nat) : Int))), some (az_i (za)), none, none]) (st2 := [az_i (s 42 (zk + 2))]) (s2 := s) rfl ?_
  refine az_to 0 (pc2 := 17) (lv2 := [some (az_r 34), some (az_i (((zk : Nat) : Int))), some (az_i (za)), none, none]) (st2 := [az_i (0)]) (s2 := s) (by rw [show s 42 (zk + 2) = 0 from h_1]; rfl) ?_
  refine az_to 6 (pc2 := 25) (lv2 := [some (az_r 34), some (az_i (((zk : Nat) : Int))), some (az_i (za)), some (az_i (0)), none]) (st2 := [az_i ((((zk : Nat) : Int) + 3)), az_r 42]) (s2 := s) rfl ?_
  refine az_ld_i 26 rfl rfl (by constructor <;> omega) ⟨by decide, rfl⟩ ?_
  refine az_to 0 (pc2 := 26) (lv2 := [some (az_r 34), some (az_i (((zk : Nat) : Int))), some (az_i (za)), some (az_i (0)), none]) (st2 := [az_i (s 42 (zk + 3))]) (s2 := s) rfl ?_
  refine az_to 0 (pc2 := 26) (lv2 := [some (az_r 34), some (az_i (((zk : Nat) : Int))), some (az_i (za)), some (az_i (0)), none]) (st2 := [az_i (zc)]) (s2 := s) (by rw [show s 42 (zk + 3) = zc from h_2]; rfl) ?_
  refine az_to 4 (pc2 := 33) (lv2 := [some (az_r 34), some (az_i (((zk : Nat) : Int))), some (az_i (za)), some (az_i (0)), some (az_i (zc))]) (st2 := [az_i (((zk : Nat) : Int)), az_r 42]) (s2 := s) rfl ?_
  refine az_ld_i 34 rfl rfl (by constructor <;> omega) ⟨by decide, rfl⟩ ?_
  refine az_to 0 (pc2 := 34) (lv2 := [some (az_r 34), some (az_i (((zk : Nat) : Int))), some (az_i (za)), some (az_i (0)), some (az_i (zc))]) (st2 := [az_i (s 42 zk)]) (s2 := s) rfl ?_
  refine az_to 0 (pc2 := 34) (lv2 := [some (az_r 34), some (az_i (((zk : Nat) : Int))), some (az_i (za)), some (az_i (0)), some (az_i (zc))]) (st2 := [az_i (11)]) (s2 := s) (by rw [show s 42 zk = 11 from hk]; rfl) ?_
  refine az_swc 182 rfl ⟨by decide, by decide⟩ (by decide) (by rfl) (by decide) ?_
  refine az_to 3 (pc2 := 185) (lv2 := [some (az_r 34), some (az_i (((zk : Nat) : Int))), some (az_i (za)), some (az_i (0)), some (az_i (zc))]) (st2 := [az_i (0), az_i (za), az_r 34]) (s2 := s) rfl ?_
  refine az_cl (m2 := am_m_X10_settles) (as := [az_r 34, az_i (za), az_i (0)]) (rest := []) 188 rfl rfl ⟨rfl, rfl⟩ (by omega) (zs_X10_settles_0 (s := s) (zb := za) (by omega) hS hI hh (by first | assumption | exact ⟨by omega, by omega⟩)) (fun v9 u q9 => ?_) (fun E9 u q9 => by cases q9.1)
  obtain ⟨o9, hu⟩ := q9
  cases o9
  refine az_retI rfl rfl ?_
  exact ⟨rfl, hu⟩
set_option maxRecDepth 100000 in
set_option maxHeartbeats 800000 in
theorem zs_X10_does_12 {d : Nat} {s : az_S} (hd : 6 ≤ d) {S : zR} {h : Nat} (hS : s 35 = S) (hI : zInv S h) (hh : h ≤ 10000) (hh9 : h + 1 ≤ 10000) (h0 : s 34 6 = 0) {zk : Nat} (hc9 : zk ≤ 45) (hk : s 42 zk = 12) {za zb zc zd : Int} (h_0 : s 42 (zk + 1) = za) (h_1 : s 42 (zk + 2) = zb) (h_2 : s 42 (zk + 3) = zc) (h_3 : s 42 (zk + 4) = zd) (h_za : az_in za) : az_R d am_m_X10_does 0 (az_ini (am_mL am_m_X10_does) [az_r 34, az_i (((zk : Nat) : Int))]) [] (s) (zMq s (zo_pass S za) 1) := by
  refine az_to 0 (pc2 := 0) (lv2 := [some (az_r 34), some (az_i (((zk : Nat) : Int))), none, none, none]) (st2 := []) (s2 := s) rfl ?_
  refine az_to 5 (pc2 := 7) (lv2 := [some (az_r 34), some (az_i (((zk : Nat) : Int))), none, none, none]) (st2 := [az_i ((((zk : Nat) : Int) + 1)), az_r 42]) (s2 := s) rfl ?_
  refine az_ld_i 8 rfl rfl (by constructor <;> omega) ⟨by decide, rfl⟩ ?_
  refine az_to 0 (pc2 := 8) (lv2 := [some (az_r 34), some (az_i (((zk : Nat) : Int))), none, none, none]) (st2 := [az_i (s 42 (zk + 1))]) (s2 := s) rfl ?_
  refine az_to 0 (pc2 := 8) (lv2 := [some (az_r 34), some (az_i (((zk : Nat) : Int))), none, none, none]) (st2 := [az_i (za)]) (s2 := s) (by rw [show s 42 (zk + 1) = za from h_0]; rfl) ?_
  refine az_to 6 (pc2 := 16) (lv2 := [some (az_r 34), some (az_i (((zk : Nat) : Int))), some (az_i (za)), none, none]) (st2 := [az_i ((((zk : Nat) : Int) + 2)), az_r 42]) (s2 := s) rfl ?_
  refine az_ld_i 17 rfl rfl (by constructor <;> omega) ⟨by decide, rfl⟩ ?_
  refine az_to 0 (pc2 := 17) (lv2 := [some (az_r 34), some (az_i (((zk : Nat) : Int))), some (az_i (za)), none, none]) (st2 := [az_i (s 42 (zk + 2))]) (s2 := s) rfl ?_
  refine az_to 0 (pc2 := 17) (lv2 := [some (az_r 34), some (az_i (((zk : Nat) : Int))), some (az_i (za)), none, none]) (st2 := [az_i (zb)]) (s2 := s) (by rw [show s 42 (zk + 2) = zb from h_1]; rfl) ?_
  refine az_to 6 (pc2 := 25) (lv2 := [some (az_r 34), some (az_i (((zk : Nat) : Int))), some (az_i (za)), some (az_i (zb)), none]) (st2 := [az_i ((((zk : Nat) : Int) + 3)), az_r 42]) (s2 := s) rfl ?_
  refine az_ld_i 26 rfl rfl (by constructor <;> omega) ⟨by decide, rfl⟩ ?_
  refine az_to 0 (pc2 := 26) (lv2 := [some (az_r 34), some (az_i (((zk : Nat) : Int))), some (az_i (za)), some (az_i (zb)), none]) (st2 := [az_i (s 42 (zk + 3))]) (s2 := s) rfl ?_
  refine az_to 0 (pc2 := 26) (lv2 := [some (az_r 34), some (az_i (((zk : Nat) : Int))), some (az_i (za)), some (az_i (zb)), none]) (st2 := [az_i (zc)]) (s2 := s) (by rw [show s 42 (zk + 3) = zc from h_2]; rfl) ?_
  refine az_to 4 (pc2 := 33) (lv2 := [some (az_r 34), some (az_i (((zk : Nat) : Int))), some (az_i (za)), some (az_i (zb)), some (az_i (zc))]) (st2 := [az_i (((zk : Nat) : Int)), az_r 42]) (s2 := s) rfl ?_
  refine az_ld_i 34 rfl rfl (by constructor <;> omega) ⟨by decide, rfl⟩ ?_
  refine az_to 0 (pc2 := 34) (lv2 := [some (az_r 34), some (az_i (((zk : Nat) : Int))), some (az_i (za)), some (az_i (zb)), some (az_i (zc))]) (st2 := [az_i (s 42 zk)]) (s2 := s) rfl ?_
  refine az_to 0 (pc2 := 34) (lv2 := [some (az_r 34), some (az_i (((zk : Nat) : Int))), some (az_i (za)), some (az_i (zb)), some (az_i (zc))]) (st2 := [az_i (12)]) (s2 := s) (by rw [show s 42 zk = 12 from hk]; rfl) ?_
  refine az_swd 189 rfl ⟨by decide, by decide⟩ (by decide) (by decide) ?_
  refine az_to 2 (pc2 := 191) (lv2 := [some (az_r 34), some (az_i (((zk : Nat) : Int))), some (az_i (za)), some (az_i (zb)), some (az_i (zc))]) (st2 := [az_i (za), az_r 34]) (s2 := s) rfl ?_
  refine az_cl (m2 := am_m_X10_passes) (as := [az_r 34, az_i (za)]) (rest := []) 194 rfl rfl ⟨rfl, rfl⟩ (by omega) (zs_X10_passes (s := s) (zh := za) (by omega) hS hI hh (by first | assumption | exact ⟨by omega, by omega⟩) (by omega)) (fun v9 u q9 => ?_) (fun E9 u q9 => by cases q9.1)
  obtain ⟨o9, hu⟩ := q9
  cases o9
  refine az_retI rfl rfl ?_
  exact ⟨rfl, hu⟩
