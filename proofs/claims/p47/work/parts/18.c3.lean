/-! CLASS, 3: the commands; written by program (wip/tools/zg/s3.py) -/
set_option maxRecDepth 100000 in
set_option maxHeartbeats 800000 in
theorem zs_X9_isLand {d : Nat} {s : az_S} (hd : 1 ≤ d) {z : Int} (h1 : az_in z) : az_R d am_m_X9_isLand 0 (az_ini (am_mL am_m_X9_isLand) [az_i (z)]) [] (s) (az_ret (some (az_i (az_b (0 ≤ z ∧ z ≤ 5)))) (s)) := by
  refine az_to 0 (pc2 := 0) (lv2 := [some (az_i (z))]) (st2 := []) (s2 := s) rfl ?_
  refine az_to 3 (pc2 := 3) (lv2 := [some (az_i (z))]) (st2 := [az_i (5), az_i (0), az_i (z)]) (s2 := s) rfl ?_
  refine az_clv (v := some (az_i (az_b (0 ≤ z ∧ z ≤ 5)))) (t := s) (m2 := am_m_X9_isWithin) (as := [az_i (z), az_i (0), az_i (5)]) (rest := []) 6 rfl rfl ⟨rfl, rfl⟩ (by omega) (zs_X9_isWithin (s := s) (z := z) (lo := 0) (hi := 5) (by omega) (by first | assumption | exact ⟨by omega, by omega⟩) ⟨by decide, by decide⟩ ⟨by decide, by decide⟩) ?_
  refine az_to 0 (pc2 := 6) (lv2 := [some (az_i (z))]) (st2 := [az_i (az_b (0 ≤ z ∧ z ≤ 5))]) (s2 := s) rfl ?_
  refine az_retP rfl rfl ?_
  exact ⟨rfl, rfl⟩
set_option maxRecDepth 100000 in
set_option maxHeartbeats 800000 in
theorem zs_X0_addBridge {d : Nat} {s : az_S} (hd : 3 ≤ d) {S : zR} {h : Nat} (hR : zRel (s 3) S) (hI : zInv S h) (hh : h ≤ 10000) {zo : Int} {zp : Int} {zq : Int} {zr : Int} (h_zo : az_in zo) (h_zp : az_in zp) (h_zq : az_in zq) (h_zr : az_in zr) : az_R d am_m_X0_addBridge 0 (az_ini (am_mL am_m_X0_addBridge) [az_r 4, az_i (zo), az_i (zp), az_i (zq), az_i (zr)]) [] (s) (zCq s (zo_bridge S zo zp zq zr)) := by
  have hz := zI_h hI hh
  refine az_to 0 (pc2 := 0) (lv2 := [some (az_r 4), some (az_i (zo)), some (az_i (zp)), some (az_i (zq)), some (az_i (zr)), none]) (st2 := []) (s2 := s) rfl ?_
  refine az_to 1 (pc2 := 1) (lv2 := [some (az_r 4), some (az_i (zo)), some (az_i (zp)), some (az_i (zq)), some (az_i (zr)), none]) (st2 := [az_i (zo)]) (s2 := s) rfl ?_
  refine az_clv (v := some (az_i (az_b (0 ≤ zo ∧ zo ≤ 5)))) (t := s) (m2 := am_m_X9_isLand) (as := [az_i (zo)]) (rest := []) 4 rfl rfl ⟨rfl, rfl⟩ (by omega) (zs_X9_isLand (s := s) (z := zo) (by omega) (by first | assumption | exact ⟨by omega, by omega⟩)) ?_
  refine az_to 0 (pc2 := 4) (lv2 := [some (az_r 4), some (az_i (zo)), some (az_i (zp)), some (az_i (zq)), some (az_i (zr)), none]) (st2 := [az_i (az_b (0 ≤ zo ∧ zo ≤ 5))]) (s2 := s) rfl ?_
  refine az_ifbe 14 7 rfl (by decide) (fun h1 => ?_) (fun h1 => ?_)
  · have h1 : ¬ (0 ≤ zo ∧ zo ≤ 5) := h1
    refine az_to 2 (pc2 := 18) (lv2 := [some (az_r 4), some (az_i (zo)), some (az_i (zp)), some (az_i (zq)), some (az_i (zr)), none]) (st2 := [az_r 5]) (s2 := s) rfl ?_
    refine az_clv (v := some (az_r 5)) (t := am_up s 5 0 (1)) (m2 := am_m_X6_noSuch) (as := [az_r 5]) (rest := []) 21 rfl rfl ⟨rfl, rfl⟩ (by omega) (zs_X6_noSuch (s := s)  (by omega) ) ?_
    refine az_to 0 (pc2 := 21) (lv2 := [some (az_r 4), some (az_i (zo)), some (az_i (zp)), some (az_i (zq)), some (az_i (zr)), none]) (st2 := [az_r 5]) (s2 := am_up s 5 0 (1)) rfl ?_
    refine az_retA rfl rfl ?_
    have e : zo_bridge S zo zp zq zr = (1, 0, 0, S) := by
      simp only [zo_bridge, Int.toNat_natCast]
      first | (rw [if_pos (by omega)]) | (rw [if_neg (by omega), if_pos (by omega)]) | (rw [if_neg (by omega), if_neg (by omega), if_pos (by omega)]) | (rw [if_neg (by omega), if_neg (by omega), if_neg (by omega), if_pos (by omega)]) | (rw [if_neg (by omega), if_neg (by omega), if_neg (by omega), if_neg (by omega), if_pos (by omega)]) | (rw [if_neg (by omega), if_neg (by omega), if_neg (by omega), if_neg (by omega)]) | (rw [if_neg (by omega), if_neg (by omega), if_neg (by omega)]) | (rw [if_neg (by omega), if_neg (by omega)]) | (rw [if_neg (by omega)])
    rw [e]
    exact ⟨rfl, ⟨hR, rfl, fun h => absurd (show (1 : Nat) = 0 from h) (by decide), fun h => absurd (show (1 : Nat) = 3 from h) (by decide), (fun i h3 h5 => by funext j; simp only [am_up, if_neg h3, if_neg h5])⟩⟩
  · have h1 : 0 ≤ zo ∧ zo ≤ 5 := h1
    refine az_to 1 (pc2 := 8) (lv2 := [some (az_r 4), some (az_i (zo)), some (az_i (zp)), some (az_i (zq)), some (az_i (zr)), none]) (st2 := [az_i (zp)]) (s2 := s) rfl ?_
    refine az_clv (v := some (az_i (az_b (0 ≤ zp ∧ zp ≤ 5)))) (t := s) (m2 := am_m_X9_isLand) (as := [az_i (zp)]) (rest := []) 11 rfl rfl ⟨rfl, rfl⟩ (by omega) (zs_X9_isLand (s := s) (z := zp) (by omega) (by first | assumption | exact ⟨by omega, by omega⟩)) ?_
    refine az_to 0 (pc2 := 11) (lv2 := [some (az_r 4), some (az_i (zo)), some (az_i (zp)), some (az_i (zq)), some (az_i (zr)), none]) (st2 := [az_i (az_b (0 ≤ zp ∧ zp ≤ 5))]) (s2 := s) rfl ?_
    refine az_ifbn 22 14 rfl (by decide) (fun h2 => ?_) (fun h2 => ?_)
    · have h2 : 0 ≤ zp ∧ zp ≤ 5 := h2
      refine az_to 3 (pc2 := 26) (lv2 := [some (az_r 4), some (az_i (zo)), some (az_i (zp)), some (az_i (zq)), some (az_i (zr)), none]) (st2 := [az_i (9), az_i (1), az_i (zq)]) (s2 := s) rfl ?_
      refine az_clv (v := some (az_i (az_b (1 ≤ zq ∧ zq ≤ 9)))) (t := s) (m2 := am_m_X9_isWithin) (as := [az_i (zq), az_i (1), az_i (9)]) (rest := []) 29 rfl rfl ⟨rfl, rfl⟩ (by omega) (zs_X9_isWithin (s := s) (z := zq) (lo := 1) (hi := 9) (by omega) (by first | assumption | exact ⟨by omega, by omega⟩) ⟨by decide, by decide⟩ ⟨by decide, by decide⟩) ?_
      refine az_to 0 (pc2 := 29) (lv2 := [some (az_r 4), some (az_i (zo)), some (az_i (zp)), some (az_i (zq)), some (az_i (zr)), none]) (st2 := [az_i (az_b (1 ≤ zq ∧ zq ≤ 9))]) (s2 := s) rfl ?_
      refine az_ifbe 43 32 rfl (by decide) (fun h3 => ?_) (fun h3 => ?_)
      · have h3 : ¬ (1 ≤ zq ∧ zq ≤ 9) := h3
        refine az_to 2 (pc2 := 47) (lv2 := [some (az_r 4), some (az_i (zo)), some (az_i (zp)), some (az_i (zq)), some (az_i (zr)), none]) (st2 := [az_r 5]) (s2 := s) rfl ?_
        refine az_clv (v := some (az_r 5)) (t := am_up s 5 0 (2)) (m2 := am_m_X6_outOfRange) (as := [az_r 5]) (rest := []) 50 rfl rfl ⟨rfl, rfl⟩ (by omega) (zs_X6_outOfRange (s := s)  (by omega) ) ?_
        refine az_to 0 (pc2 := 50) (lv2 := [some (az_r 4), some (az_i (zo)), some (az_i (zp)), some (az_i (zq)), some (az_i (zr)), none]) (st2 := [az_r 5]) (s2 := am_up s 5 0 (2)) rfl ?_
        refine az_retA rfl rfl ?_
        have e : zo_bridge S zo zp zq zr = (2, 0, 0, S) := by
          simp only [zo_bridge, Int.toNat_natCast]
          first | (rw [if_pos (by omega)]) | (rw [if_neg (by omega), if_pos (by omega)]) | (rw [if_neg (by omega), if_neg (by omega), if_pos (by omega)]) | (rw [if_neg (by omega), if_neg (by omega), if_neg (by omega), if_pos (by omega)]) | (rw [if_neg (by omega), if_neg (by omega), if_neg (by omega), if_neg (by omega), if_pos (by omega)]) | (rw [if_neg (by omega), if_neg (by omega), if_neg (by omega), if_neg (by omega)]) | (rw [if_neg (by omega), if_neg (by omega), if_neg (by omega)]) | (rw [if_neg (by omega), if_neg (by omega)]) | (rw [if_neg (by omega)])
        rw [e]
        exact ⟨rfl, ⟨hR, rfl, fun h => absurd (show (2 : Nat) = 0 from h) (by decide), fun h => absurd (show (2 : Nat) = 3 from h) (by decide), (fun i h3 h5 => by funext j; simp only [am_up, if_neg h3, if_neg h5])⟩⟩
      · have h3 : 1 ≤ zq ∧ zq ≤ 9 := h3
        refine az_to 3 (pc2 := 37) (lv2 := [some (az_r 4), some (az_i (zo)), some (az_i (zp)), some (az_i (zq)), some (az_i (zr)), none]) (st2 := [az_i (9), az_i (0), az_i (zr)]) (s2 := s) rfl ?_
        refine az_clv (v := some (az_i (az_b (0 ≤ zr ∧ zr ≤ 9)))) (t := s) (m2 := am_m_X9_isWithin) (as := [az_i (zr), az_i (0), az_i (9)]) (rest := []) 40 rfl rfl ⟨rfl, rfl⟩ (by omega) (zs_X9_isWithin (s := s) (z := zr) (lo := 0) (hi := 9) (by omega) (by first | assumption | exact ⟨by omega, by omega⟩) ⟨by decide, by decide⟩ ⟨by decide, by decide⟩) ?_
        refine az_to 0 (pc2 := 40) (lv2 := [some (az_r 4), some (az_i (zo)), some (az_i (zp)), some (az_i (zq)), some (az_i (zr)), none]) (st2 := [az_i (az_b (0 ≤ zr ∧ zr ≤ 9))]) (s2 := s) rfl ?_
        refine az_ifbn 51 43 rfl (by decide) (fun h4 => ?_) (fun h4 => ?_)
        · have h4 : 0 ≤ zr ∧ zr ≤ 9 := h4
          refine az_to 2 (pc2 := 53) (lv2 := [some (az_r 4), some (az_i (zo)), some (az_i (zp)), some (az_i (zq)), some (az_i (zr)), none]) (st2 := [az_i (zp), az_i (zo)]) (s2 := s) rfl ?_
          refine az_if2 66 56 rfl (by decide) (by first | assumption | exact ⟨by omega, by omega⟩) (by first | assumption | exact ⟨by omega, by omega⟩) (fun h5 => ?_) (fun h5 => ?_)
          · have h5 : ¬ zo = zp := h5
            refine az_to 3 (pc2 := 71) (lv2 := [some (az_r 4), some (az_i (zo)), some (az_i (zp)), some (az_i (zq)), some (az_i (zr)), none]) (st2 := [az_i (2), az_r 1]) (s2 := s) rfl ?_
            refine az_clv (v := some (az_i (((zn S 0 : Nat) : Int)))) (t := s) (m2 := am_m_X8_of) (as := [az_r 1, az_i (2)]) (rest := []) 74 rfl rfl ⟨rfl, rfl⟩ (by omega) (zs_X8_of_2 (s := s)  (by omega) hR hI hh) ?_
            refine az_to 0 (pc2 := 74) (lv2 := [some (az_r 4), some (az_i (zo)), some (az_i (zp)), some (az_i (zq)), some (az_i (zr)), none]) (st2 := [az_i (((zn S 0 : Nat) : Int))]) (s2 := s) rfl ?_
            refine az_to 3 (pc2 := 80) (lv2 := [some (az_r 4), some (az_i (zo)), some (az_i (zp)), some (az_i (zq)), some (az_i (zr)), some (az_i (((zn S 0 : Nat) : Int)))]) (st2 := [az_i (10), az_i (((zn S 0 : Nat) : Int))]) (s2 := s) rfl ?_
            refine az_if2 94 83 rfl (by decide) (by first | assumption | exact ⟨by omega, by omega⟩) ⟨by decide, by decide⟩ (fun h6 => ?_) (fun h6 => ?_)
            · have h6 : ((zn S 0 : Nat) : Int) < 10 := h6
              refine az_to 6 (pc2 := 103) (lv2 := [some (az_r 4), some (az_i (zo)), some (az_i (zp)), some (az_i (zq)), some (az_i (zr)), some (az_i (((zn S 0 : Nat) : Int)))]) (st2 := [az_i ((((zn S 0 : Nat) : Int) + 1)), az_i (2), az_r 1]) (s2 := s) rfl ?_
              refine az_clv (v := none) (t := am_up s 3 2 ((((zn S 0 : Nat) : Int) + 1))) (m2 := am_m_X8_set) (as := [az_r 1, az_i (2), az_i ((((zn S 0 : Nat) : Int) + 1))]) (rest := []) 106 rfl rfl ⟨rfl, rfl⟩ (by omega) (zs_X8_set (s := s) (k := 2) (v := ((((zn S 0 : Nat) : Int) + 1))) (by omega) (by omega)) ?_
              refine az_to 0 (pc2 := 106) (lv2 := [some (az_r 4), some (az_i (zo)), some (az_i (zp)), some (az_i (zq)), some (az_i (zr)), some (az_i (((zn S 0 : Nat) : Int)))]) (st2 := []) (s2 := am_up s 3 2 ((((zn S 0 : Nat) : Int) + 1))) rfl ?_
              refine az_to 5 (pc2 := 114) (lv2 := [some (az_r 4), some (az_i (zo)), some (az_i (zp)), some (az_i (zq)), some (az_i (zr)), some (az_i (((zn S 0 : Nat) : Int)))]) (st2 := [az_i (zo), az_i (0), az_i (((zn S 0 : Nat) : Int)), az_r 1]) (s2 := am_up s 3 2 ((((zn S 0 : Nat) : Int) + 1))) rfl ?_
              refine az_clv (v := none) (t := am_up (am_up s 3 2 ((((zn S 0 : Nat) : Int) + 1))) 3 (5 + 13 * (zn S 0) + 0) zo) (m2 := am_m_X8_setBridge) (as := [az_r 1, az_i (((zn S 0 : Nat) : Int)), az_i (0), az_i (zo)]) (rest := []) 117 rfl rfl ⟨rfl, rfl⟩ (by omega) (zs_X8_setBridge (s := am_up s 3 2 ((((zn S 0 : Nat) : Int) + 1))) (b := (zn S 0)) (k := 0) (v := zo) (by omega) (by omega) (by omega)) ?_
              refine az_to 0 (pc2 := 117) (lv2 := [some (az_r 4), some (az_i (zo)), some (az_i (zp)), some (az_i (zq)), some (az_i (zr)), some (az_i (((zn S 0 : Nat) : Int)))]) (st2 := []) (s2 := am_up (am_up s 3 2 ((((zn S 0 : Nat) : Int) + 1))) 3 (5 + 13 * (zn S 0) + 0) zo) rfl ?_
              refine az_to 5 (pc2 := 125) (lv2 := [some (az_r 4), some (az_i (zo)), some (az_i (zp)), some (az_i (zq)), some (az_i (zr)), some (az_i (((zn S 0 : Nat) : Int)))]) (st2 := [az_i (zp), az_i (1), az_i (((zn S 0 : Nat) : Int)), az_r 1]) (s2 := am_up (am_up s 3 2 ((((zn S 0 : Nat) : Int) + 1))) 3 (5 + 13 * (zn S 0) + 0) zo) rfl ?_
              refine az_clv (v := none) (t := am_up (am_up (am_up s 3 2 ((((zn S 0 : Nat) : Int) + 1))) 3 (5 + 13 * (zn S 0) + 0) zo) 3 (5 + 13 * (zn S 0) + 1) zp) (m2 := am_m_X8_setBridge) (as := [az_r 1, az_i (((zn S 0 : Nat) : Int)), az_i (1), az_i (zp)]) (rest := []) 128 rfl rfl ⟨rfl, rfl⟩ (by omega) (zs_X8_setBridge (s := am_up (am_up s 3 2 ((((zn S 0 : Nat) : Int) + 1))) 3 (5 + 13 * (zn S 0) + 0) zo) (b := (zn S 0)) (k := 1) (v := zp) (by omega) (by omega) (by omega)) ?_
              refine az_to 0 (pc2 := 128) (lv2 := [some (az_r 4), some (az_i (zo)), some (az_i (zp)), some (az_i (zq)), some (az_i (zr)), some (az_i (((zn S 0 : Nat) : Int)))]) (st2 := []) (s2 := am_up (am_up (am_up s 3 2 ((((zn S 0 : Nat) : Int) + 1))) 3 (5 + 13 * (zn S 0) + 0) zo) 3 (5 + 13 * (zn S 0) + 1) zp) rfl ?_
              refine az_to 5 (pc2 := 136) (lv2 := [some (az_r 4), some (az_i (zo)), some (az_i (zp)), some (az_i (zq)), some (az_i (zr)), some (az_i (((zn S 0 : Nat) : Int)))]) (st2 := [az_i (zq), az_i (2), az_i (((zn S 0 : Nat) : Int)), az_r 1]) (s2 := am_up (am_up (am_up s 3 2 ((((zn S 0 : Nat) : Int) + 1))) 3 (5 + 13 * (zn S 0) + 0) zo) 3 (5 + 13 * (zn S 0) + 1) zp) rfl ?_
              refine az_clv (v := none) (t := am_up (am_up (am_up (am_up s 3 2 ((((zn S 0 : Nat) : Int) + 1))) 3 (5 + 13 * (zn S 0) + 0) zo) 3 (5 + 13 * (zn S 0) + 1) zp) 3 (5 + 13 * (zn S 0) + 2) zq) (m2 := am_m_X8_setBridge) (as := [az_r 1, az_i (((zn S 0 : Nat) : Int)), az_i (2), az_i (zq)]) (rest := []) 139 rfl rfl ⟨rfl, rfl⟩ (by omega) (zs_X8_setBridge (s := am_up (am_up (am_up s 3 2 ((((zn S 0 : Nat) : Int) + 1))) 3 (5 + 13 * (zn S 0) + 0) zo) 3 (5 + 13 * (zn S 0) + 1) zp) (b := (zn S 0)) (k := 2) (v := zq) (by omega) (by omega) (by omega)) ?_
              refine az_to 0 (pc2 := 139) (lv2 := [some (az_r 4), some (az_i (zo)), some (az_i (zp)), some (az_i (zq)), some (az_i (zr)), some (az_i (((zn S 0 : Nat) : Int)))]) (st2 := []) (s2 := am_up (am_up (am_up (am_up s 3 2 ((((zn S 0 : Nat) : Int) + 1))) 3 (5 + 13 * (zn S 0) + 0) zo) 3 (5 + 13 * (zn S 0) + 1) zp) 3 (5 + 13 * (zn S 0) + 2) zq) rfl ?_
              refine az_to 5 (pc2 := 148) (lv2 := [some (az_r 4), some (az_i (zo)), some (az_i (zp)), some (az_i (zq)), some (az_i (zr)), some (az_i (((zn S 0 : Nat) : Int)))]) (st2 := [az_i (zr), az_i (3), az_i (((zn S 0 : Nat) : Int)), az_r 1]) (s2 := am_up (am_up (am_up (am_up s 3 2 ((((zn S 0 : Nat) : Int) + 1))) 3 (5 + 13 * (zn S 0) + 0) zo) 3 (5 + 13 * (zn S 0) + 1) zp) 3 (5 + 13 * (zn S 0) + 2) zq) rfl ?_
              refine az_clv (v := none) (t := am_up (am_up (am_up (am_up (am_up s 3 2 ((((zn S 0 : Nat) : Int) + 1))) 3 (5 + 13 * (zn S 0) + 0) zo) 3 (5 + 13 * (zn S 0) + 1) zp) 3 (5 + 13 * (zn S 0) + 2) zq) 3 (5 + 13 * (zn S 0) + 3) zr) (m2 := am_m_X8_setBridge) (as := [az_r 1, az_i (((zn S 0 : Nat) : Int)), az_i (3), az_i (zr)]) (rest := []) 151 rfl rfl ⟨rfl, rfl⟩ (by omega) (zs_X8_setBridge (s := am_up (am_up (am_up (am_up s 3 2 ((((zn S 0 : Nat) : Int) + 1))) 3 (5 + 13 * (zn S 0) + 0) zo) 3 (5 + 13 * (zn S 0) + 1) zp) 3 (5 + 13 * (zn S 0) + 2) zq) (b := (zn S 0)) (k := 3) (v := zr) (by omega) (by omega) (by omega)) ?_
              refine az_to 0 (pc2 := 151) (lv2 := [some (az_r 4), some (az_i (zo)), some (az_i (zp)), some (az_i (zq)), some (az_i (zr)), some (az_i (((zn S 0 : Nat) : Int)))]) (st2 := []) (s2 := am_up (am_up (am_up (am_up (am_up s 3 2 ((((zn S 0 : Nat) : Int) + 1))) 3 (5 + 13 * (zn S 0) + 0) zo) 3 (5 + 13 * (zn S 0) + 1) zp) 3 (5 + 13 * (zn S 0) + 2) zq) 3 (5 + 13 * (zn S 0) + 3) zr) rfl ?_
              refine az_to 5 (pc2 := 159) (lv2 := [some (az_r 4), some (az_i (zo)), some (az_i (zp)), some (az_i (zq)), some (az_i (zr)), some (az_i (((zn S 0 : Nat) : Int)))]) (st2 := [az_i (-1), az_i (4), az_i (((zn S 0 : Nat) : Int)), az_r 1]) (s2 := am_up (am_up (am_up (am_up (am_up s 3 2 ((((zn S 0 : Nat) : Int) + 1))) 3 (5 + 13 * (zn S 0) + 0) zo) 3 (5 + 13 * (zn S 0) + 1) zp) 3 (5 + 13 * (zn S 0) + 2) zq) 3 (5 + 13 * (zn S 0) + 3) zr) rfl ?_
              refine az_clv (v := none) (t := am_up (am_up (am_up (am_up (am_up (am_up s 3 2 ((((zn S 0 : Nat) : Int) + 1))) 3 (5 + 13 * (zn S 0) + 0) zo) 3 (5 + 13 * (zn S 0) + 1) zp) 3 (5 + 13 * (zn S 0) + 2) zq) 3 (5 + 13 * (zn S 0) + 3) zr) 3 (5 + 13 * (zn S 0) + 4) (-1)) (m2 := am_m_X8_setBridge) (as := [az_r 1, az_i (((zn S 0 : Nat) : Int)), az_i (4), az_i (-1)]) (rest := []) 162 rfl rfl ⟨rfl, rfl⟩ (by omega) (zs_X8_setBridge (s := am_up (am_up (am_up (am_up (am_up s 3 2 ((((zn S 0 : Nat) : Int) + 1))) 3 (5 + 13 * (zn S 0) + 0) zo) 3 (5 + 13 * (zn S 0) + 1) zp) 3 (5 + 13 * (zn S 0) + 2) zq) 3 (5 + 13 * (zn S 0) + 3) zr) (b := (zn S 0)) (k := 4) (v := (-1)) (by omega) (by omega) (by omega)) ?_
              refine az_to 0 (pc2 := 162) (lv2 := [some (az_r 4), some (az_i (zo)), some (az_i (zp)), some (az_i (zq)), some (az_i (zr)), some (az_i (((zn S 0 : Nat) : Int)))]) (st2 := []) (s2 := am_up (am_up (am_up (am_up (am_up (am_up s 3 2 ((((zn S 0 : Nat) : Int) + 1))) 3 (5 + 13 * (zn S 0) + 0) zo) 3 (5 + 13 * (zn S 0) + 1) zp) 3 (5 + 13 * (zn S 0) + 2) zq) 3 (5 + 13 * (zn S 0) + 3) zr) 3 (5 + 13 * (zn S 0) + 4) (-1)) rfl ?_
              refine az_to 5 (pc2 := 171) (lv2 := [some (az_r 4), some (az_i (zo)), some (az_i (zp)), some (az_i (zq)), some (az_i (zr)), some (az_i (((zn S 0 : Nat) : Int)))]) (st2 := [az_i (-1), az_i (6), az_i (((zn S 0 : Nat) : Int)), az_r 1]) (s2 := am_up (am_up (am_up (am_up (am_up (am_up s 3 2 ((((zn S 0 : Nat) : Int) + 1))) 3 (5 + 13 * (zn S 0) + 0) zo) 3 (5 + 13 * (zn S 0) + 1) zp) 3 (5 + 13 * (zn S 0) + 2) zq) 3 (5 + 13 * (zn S 0) + 3) zr) 3 (5 + 13 * (zn S 0) + 4) (-1)) rfl ?_
              refine az_clv (v := none) (t := am_up (am_up (am_up (am_up (am_up (am_up (am_up s 3 2 ((((zn S 0 : Nat) : Int) + 1))) 3 (5 + 13 * (zn S 0) + 0) zo) 3 (5 + 13 * (zn S 0) + 1) zp) 3 (5 + 13 * (zn S 0) + 2) zq) 3 (5 + 13 * (zn S 0) + 3) zr) 3 (5 + 13 * (zn S 0) + 4) (-1)) 3 (5 + 13 * (zn S 0) + 6) (-1)) (m2 := am_m_X8_setBridge) (as := [az_r 1, az_i (((zn S 0 : Nat) : Int)), az_i (6), az_i (-1)]) (rest := []) 174 rfl rfl ⟨rfl, rfl⟩ (by omega) (zs_X8_setBridge (s := am_up (am_up (am_up (am_up (am_up (am_up s 3 2 ((((zn S 0 : Nat) : Int) + 1))) 3 (5 + 13 * (zn S 0) + 0) zo) 3 (5 + 13 * (zn S 0) + 1) zp) 3 (5 + 13 * (zn S 0) + 2) zq) 3 (5 + 13 * (zn S 0) + 3) zr) 3 (5 + 13 * (zn S 0) + 4) (-1)) (b := (zn S 0)) (k := 6) (v := (-1)) (by omega) (by omega) (by omega)) ?_
              refine az_to 0 (pc2 := 174) (lv2 := [some (az_r 4), some (az_i (zo)), some (az_i (zp)), some (az_i (zq)), some (az_i (zr)), some (az_i (((zn S 0 : Nat) : Int)))]) (st2 := []) (s2 := am_up (am_up (am_up (am_up (am_up (am_up (am_up s 3 2 ((((zn S 0 : Nat) : Int) + 1))) 3 (5 + 13 * (zn S 0) + 0) zo) 3 (5 + 13 * (zn S 0) + 1) zp) 3 (5 + 13 * (zn S 0) + 2) zq) 3 (5 + 13 * (zn S 0) + 3) zr) 3 (5 + 13 * (zn S 0) + 4) (-1)) 3 (5 + 13 * (zn S 0) + 6) (-1)) rfl ?_
              refine az_to 3 (pc2 := 180) (lv2 := [some (az_r 4), some (az_i (zo)), some (az_i (zp)), some (az_i (zq)), some (az_i (zr)), some (az_i (((zn S 0 : Nat) : Int)))]) (st2 := [az_i (((zn S 0 : Nat) : Int)), az_r 5]) (s2 := am_up (am_up (am_up (am_up (am_up (am_up (am_up s 3 2 ((((zn S 0 : Nat) : Int) + 1))) 3 (5 + 13 * (zn S 0) + 0) zo) 3 (5 + 13 * (zn S 0) + 1) zp) 3 (5 + 13 * (zn S 0) + 2) zq) 3 (5 + 13 * (zn S 0) + 3) zr) 3 (5 + 13 * (zn S 0) + 4) (-1)) 3 (5 + 13 * (zn S 0) + 6) (-1)) rfl ?_
              refine az_clv (v := some (az_r 5)) (t := am_up (am_up (am_up (am_up (am_up (am_up (am_up (am_up (am_up s 3 2 ((((zn S 0 : Nat) : Int) + 1))) 3 (5 + 13 * (zn S 0) + 0) zo) 3 (5 + 13 * (zn S 0) + 1) zp) 3 (5 + 13 * (zn S 0) + 2) zq) 3 (5 + 13 * (zn S 0) + 3) zr) 3 (5 + 13 * (zn S 0) + 4) (-1)) 3 (5 + 13 * (zn S 0) + 6) (-1)) 5 0 (0)) 5 1 ((((zn S 0 : Nat) : Int)))) (m2 := am_m_X6_done) (as := [az_r 5, az_i (((zn S 0 : Nat) : Int))]) (rest := []) 183 rfl rfl ⟨rfl, rfl⟩ (by omega) (zs_X6_done (s := am_up (am_up (am_up (am_up (am_up (am_up (am_up s 3 2 ((((zn S 0 : Nat) : Int) + 1))) 3 (5 + 13 * (zn S 0) + 0) zo) 3 (5 + 13 * (zn S 0) + 1) zp) 3 (5 + 13 * (zn S 0) + 2) zq) 3 (5 + 13 * (zn S 0) + 3) zr) 3 (5 + 13 * (zn S 0) + 4) (-1)) 3 (5 + 13 * (zn S 0) + 6) (-1)) (v := (((zn S 0 : Nat) : Int))) (by omega) ) ?_
              refine az_to 0 (pc2 := 183) (lv2 := [some (az_r 4), some (az_i (zo)), some (az_i (zp)), some (az_i (zq)), some (az_i (zr)), some (az_i (((zn S 0 : Nat) : Int)))]) (st2 := [az_r 5]) (s2 := am_up (am_up (am_up (am_up (am_up (am_up (am_up (am_up (am_up s 3 2 ((((zn S 0 : Nat) : Int) + 1))) 3 (5 + 13 * (zn S 0) + 0) zo) 3 (5 + 13 * (zn S 0) + 1) zp) 3 (5 + 13 * (zn S 0) + 2) zq) 3 (5 + 13 * (zn S 0) + 3) zr) 3 (5 + 13 * (zn S 0) + 4) (-1)) 3 (5 + 13 * (zn S 0) + 6) (-1)) 5 0 (0)) 5 1 ((((zn S 0 : Nat) : Int)))) rfl ?_
              refine az_retA rfl rfl ?_
              have e : zo_bridge S zo zp zq zr = (0, (((zn S 0 : Nat) : Int)), 0, zbS S zo zp zq zr) := by
                simp only [zo_bridge, Int.toNat_natCast]
                rw [if_neg (by omega), if_neg (by omega), if_neg (by omega), if_neg (by omega)]
              rw [e]
              exact ⟨rfl, ⟨zRel_bridge hR hI (by omega) zo zp zq zr, rfl, fun _ => rfl, fun h => absurd (show (0 : Nat) = 3 from h) (by decide), (fun i h3 h5 => by funext j; simp only [am_up, if_neg h3, if_neg h5])⟩⟩
            · have h6 : ¬ (((zn S 0 : Nat) : Int) < 10) := h6
              refine az_to 4 (pc2 := 90) (lv2 := [some (az_r 4), some (az_i (zo)), some (az_i (zp)), some (az_i (zq)), some (az_i (zr)), some (az_i (((zn S 0 : Nat) : Int)))]) (st2 := [az_i (10), az_i (1), az_r 5]) (s2 := s) rfl ?_
              refine az_clv (v := some (az_r 5)) (t := am_up (am_up (am_up s 5 0 (3)) 5 2 (1)) 5 3 (10)) (m2 := am_m_X6_refused) (as := [az_r 5, az_i (1), az_i (10)]) (rest := []) 93 rfl rfl ⟨rfl, rfl⟩ (by omega) (zs_X6_refused (s := s) (r := 1) (w := 10) (by omega) ) ?_
              refine az_to 0 (pc2 := 93) (lv2 := [some (az_r 4), some (az_i (zo)), some (az_i (zp)), some (az_i (zq)), some (az_i (zr)), some (az_i (((zn S 0 : Nat) : Int)))]) (st2 := [az_r 5]) (s2 := am_up (am_up (am_up s 5 0 (3)) 5 2 (1)) 5 3 (10)) rfl ?_
              refine az_retA rfl rfl ?_
              have e : zo_bridge S zo zp zq zr = (3, 1, 10, S) := by
                simp only [zo_bridge, Int.toNat_natCast]
                first | (rw [if_pos (by omega)]) | (rw [if_neg (by omega), if_pos (by omega)]) | (rw [if_neg (by omega), if_neg (by omega), if_pos (by omega)]) | (rw [if_neg (by omega), if_neg (by omega), if_neg (by omega), if_pos (by omega)]) | (rw [if_neg (by omega), if_neg (by omega), if_neg (by omega), if_neg (by omega), if_pos (by omega)]) | (rw [if_neg (by omega), if_neg (by omega), if_neg (by omega), if_neg (by omega)]) | (rw [if_neg (by omega), if_neg (by omega), if_neg (by omega)]) | (rw [if_neg (by omega), if_neg (by omega)]) | (rw [if_neg (by omega)])
              rw [e]
              exact ⟨rfl, ⟨hR, rfl, fun h => absurd (show (3 : Nat) = 0 from h) (by decide), fun _ => ⟨rfl, rfl⟩, (fun i h3 h5 => by funext j; simp only [am_up, if_neg h3, if_neg h5])⟩⟩
          · have h5 : zo = zp := Decidable.not_not.mp h5
            refine az_to 4 (pc2 := 62) (lv2 := [some (az_r 4), some (az_i (zo)), some (az_i (zp)), some (az_i (zq)), some (az_i (zr)), none]) (st2 := [az_i (zo), az_i (2), az_r 5]) (s2 := s) rfl ?_
            refine az_clv (v := some (az_r 5)) (t := am_up (am_up (am_up s 5 0 (3)) 5 2 (2)) 5 3 (zo)) (m2 := am_m_X6_refused) (as := [az_r 5, az_i (2), az_i (zo)]) (rest := []) 65 rfl rfl ⟨rfl, rfl⟩ (by omega) (zs_X6_refused (s := s) (r := 2) (w := zo) (by omega) ) ?_
            refine az_to 0 (pc2 := 65) (lv2 := [some (az_r 4), some (az_i (zo)), some (az_i (zp)), some (az_i (zq)), some (az_i (zr)), none]) (st2 := [az_r 5]) (s2 := am_up (am_up (am_up s 5 0 (3)) 5 2 (2)) 5 3 (zo)) rfl ?_
            refine az_retA rfl rfl ?_
            have e : zo_bridge S zo zp zq zr = (3, 2, zo, S) := by
              simp only [zo_bridge, Int.toNat_natCast]
              first | (rw [if_pos (by omega)]) | (rw [if_neg (by omega), if_pos (by omega)]) | (rw [if_neg (by omega), if_neg (by omega), if_pos (by omega)]) | (rw [if_neg (by omega), if_neg (by omega), if_neg (by omega), if_pos (by omega)]) | (rw [if_neg (by omega), if_neg (by omega), if_neg (by omega), if_neg (by omega), if_pos (by omega)]) | (rw [if_neg (by omega), if_neg (by omega), if_neg (by omega), if_neg (by omega)]) | (rw [if_neg (by omega), if_neg (by omega), if_neg (by omega)]) | (rw [if_neg (by omega), if_neg (by omega)]) | (rw [if_neg (by omega)])
            rw [e]
            exact ⟨rfl, ⟨hR, rfl, fun h => absurd (show (3 : Nat) = 0 from h) (by decide), fun _ => ⟨rfl, rfl⟩, (fun i h3 h5 => by funext j; simp only [am_up, if_neg h3, if_neg h5])⟩⟩
        · have h4 : ¬ (0 ≤ zr ∧ zr ≤ 9) := h4
          refine az_to 2 (pc2 := 47) (lv2 := [some (az_r 4), some (az_i (zo)), some (az_i (zp)), some (az_i (zq)), some (az_i (zr)), none]) (st2 := [az_r 5]) (s2 := s) rfl ?_
          refine az_clv (v := some (az_r 5)) (t := am_up s 5 0 (2)) (m2 := am_m_X6_outOfRange) (as := [az_r 5]) (rest := []) 50 rfl rfl ⟨rfl, rfl⟩ (by omega) (zs_X6_outOfRange (s := s)  (by omega) ) ?_
          refine az_to 0 (pc2 := 50) (lv2 := [some (az_r 4), some (az_i (zo)), some (az_i (zp)), some (az_i (zq)), some (az_i (zr)), none]) (st2 := [az_r 5]) (s2 := am_up s 5 0 (2)) rfl ?_
          refine az_retA rfl rfl ?_
          have e : zo_bridge S zo zp zq zr = (2, 0, 0, S) := by
            simp only [zo_bridge, Int.toNat_natCast]
            first | (rw [if_pos (by omega)]) | (rw [if_neg (by omega), if_pos (by omega)]) | (rw [if_neg (by omega), if_neg (by omega), if_pos (by omega)]) | (rw [if_neg (by omega), if_neg (by omega), if_neg (by omega), if_pos (by omega)]) | (rw [if_neg (by omega), if_neg (by omega), if_neg (by omega), if_neg (by omega), if_pos (by omega)]) | (rw [if_neg (by omega), if_neg (by omega), if_neg (by omega), if_neg (by omega)]) | (rw [if_neg (by omega), if_neg (by omega), if_neg (by omega)]) | (rw [if_neg (by omega), if_neg (by omega)]) | (rw [if_neg (by omega)])
          rw [e]
          exact ⟨rfl, ⟨hR, rfl, fun h => absurd (show (2 : Nat) = 0 from h) (by decide), fun h => absurd (show (2 : Nat) = 3 from h) (by decide), (fun i h3 h5 => by funext j; simp only [am_up, if_neg h3, if_neg h5])⟩⟩
    · have h2 : ¬ (0 ≤ zp ∧ zp ≤ 5) := h2
      refine az_to 2 (pc2 := 18) (lv2 := [some (az_r 4), some (az_i (zo)), some (az_i (zp)), some (az_i (zq)), some (az_i (zr)), none]) (st2 := [az_r 5]) (s2 := s) rfl ?_
      refine az_clv (v := some (az_r 5)) (t := am_up s 5 0 (1)) (m2 := am_m_X6_noSuch) (as := [az_r 5]) (rest := []) 21 rfl rfl ⟨rfl, rfl⟩ (by omega) (zs_X6_noSuch (s := s)  (by omega) ) ?_
      refine az_to 0 (pc2 := 21) (lv2 := [some (az_r 4), some (az_i (zo)), some (az_i (zp)), some (az_i (zq)), some (az_i (zr)), none]) (st2 := [az_r 5]) (s2 := am_up s 5 0 (1)) rfl ?_
      refine az_retA rfl rfl ?_
      have e : zo_bridge S zo zp zq zr = (1, 0, 0, S) := by
        simp only [zo_bridge, Int.toNat_natCast]
        first | (rw [if_pos (by omega)]) | (rw [if_neg (by omega), if_pos (by omega)]) | (rw [if_neg (by omega), if_neg (by omega), if_pos (by omega)]) | (rw [if_neg (by omega), if_neg (by omega), if_neg (by omega), if_pos (by omega)]) | (rw [if_neg (by omega), if_neg (by omega), if_neg (by omega), if_neg (by omega), if_pos (by omega)]) | (rw [if_neg (by omega), if_neg (by omega), if_neg (by omega), if_neg (by omega)]) | (rw [if_neg (by omega), if_neg (by omega), if_neg (by omega)]) | (rw [if_neg (by omega), if_neg (by omega)]) | (rw [if_neg (by omega)])
      rw [e]
      exact ⟨rfl, ⟨hR, rfl, fun h => absurd (show (1 : Nat) = 0 from h) (by decide), fun h => absurd (show (1 : Nat) = 3 from h) (by decide), (fun i h3 h5 => by funext j; simp only [am_up, if_neg h3, if_neg h5])⟩⟩
set_option maxRecDepth 100000 in
set_option maxHeartbeats 800000 in
theorem zs_X0_addTroll {d : Nat} {s : az_S} (hd : 3 ≤ d) {S : zR} {h : Nat} (hR : zRel (s 3) S) (hI : zInv S h) (hh : h ≤ 10000)   : az_R d am_m_X0_addTroll 0 (az_ini (am_mL am_m_X0_addTroll) [az_r 4]) [] (s) (zCq s (zo_troll S )) := by
  have hz := zI_h hI hh
  refine az_to 0 (pc2 := 0) (lv2 := [some (az_r 4), none]) (st2 := []) (s2 := s) rfl ?_
  refine az_to 3 (pc2 := 5) (lv2 := [some (az_r 4), none]) (st2 := [az_i (3), az_r 1]) (s2 := s) rfl ?_
  refine az_clv (v := some (az_i (((zn S 1 : Nat) : Int)))) (t := s) (m2 := am_m_X8_of) (as := [az_r 1, az_i (3)]) (rest := []) 8 rfl rfl ⟨rfl, rfl⟩ (by omega) (zs_X8_of_3 (s := s)  (by omega) hR hI hh) ?_
  refine az_to 0 (pc2 := 8) (lv2 := [some (az_r 4), none]) (st2 := [az_i (((zn S 1 : Nat) : Int))]) (s2 := s) rfl ?_
  refine az_to 3 (pc2 := 12) (lv2 := [some (az_r 4), some (az_i (((zn S 1 : Nat) : Int)))]) (st2 := [az_i (6), az_i (((zn S 1 : Nat) : Int))]) (s2 := s) rfl ?_
  refine az_if2 26 15 rfl (by decide) (by first | assumption | exact ⟨by omega, by omega⟩) ⟨by decide, by decide⟩ (fun h1 => ?_) (fun h1 => ?_)
  · have h1 : ((zn S 1 : Nat) : Int) < 6 := h1
    refine az_to 6 (pc2 := 34) (lv2 := [some (az_r 4), some (az_i (((zn S 1 : Nat) : Int)))]) (st2 := [az_i ((((zn S 1 : Nat) : Int) + 1)), az_i (3), az_r 1]) (s2 := s) rfl ?_
    refine az_clv (v := none) (t := am_up s 3 3 ((((zn S 1 : Nat) : Int) + 1))) (m2 := am_m_X8_set) (as := [az_r 1, az_i (3), az_i ((((zn S 1 : Nat) : Int) + 1))]) (rest := []) 37 rfl rfl ⟨rfl, rfl⟩ (by omega) (zs_X8_set (s := s) (k := 3) (v := ((((zn S 1 : Nat) : Int) + 1))) (by omega) (by omega)) ?_
    refine az_to 0 (pc2 := 37) (lv2 := [some (az_r 4), some (az_i (((zn S 1 : Nat) : Int)))]) (st2 := []) (s2 := am_up s 3 3 ((((zn S 1 : Nat) : Int) + 1))) rfl ?_
    refine az_to 5 (pc2 := 44) (lv2 := [some (az_r 4), some (az_i (((zn S 1 : Nat) : Int)))]) (st2 := [az_i (-1), az_i (0), az_i (((zn S 1 : Nat) : Int)), az_r 1]) (s2 := am_up s 3 3 ((((zn S 1 : Nat) : Int) + 1))) rfl ?_
    refine az_clv (v := none) (t := am_up (am_up s 3 3 ((((zn S 1 : Nat) : Int) + 1))) 3 (135 + 4 * (zn S 1) + 0) (-1)) (m2 := am_m_X8_setTroll) (as := [az_r 1, az_i (((zn S 1 : Nat) : Int)), az_i (0), az_i (-1)]) (rest := []) 47 rfl rfl ⟨rfl, rfl⟩ (by omega) (zs_X8_setTroll (s := am_up s 3 3 ((((zn S 1 : Nat) : Int) + 1))) (t := (zn S 1)) (k := 0) (v := (-1)) (by omega) (by omega) (by omega)) ?_
    refine az_to 0 (pc2 := 47) (lv2 := [some (az_r 4), some (az_i (((zn S 1 : Nat) : Int)))]) (st2 := []) (s2 := am_up (am_up s 3 3 ((((zn S 1 : Nat) : Int) + 1))) 3 (135 + 4 * (zn S 1) + 0) (-1)) rfl ?_
    refine az_to 3 (pc2 := 52) (lv2 := [some (az_r 4), some (az_i (((zn S 1 : Nat) : Int)))]) (st2 := [az_i (((zn S 1 : Nat) : Int)), az_r 5]) (s2 := am_up (am_up s 3 3 ((((zn S 1 : Nat) : Int) + 1))) 3 (135 + 4 * (zn S 1) + 0) (-1)) rfl ?_
    refine az_clv (v := some (az_r 5)) (t := am_up (am_up (am_up (am_up s 3 3 ((((zn S 1 : Nat) : Int) + 1))) 3 (135 + 4 * (zn S 1) + 0) (-1)) 5 0 (0)) 5 1 ((((zn S 1 : Nat) : Int)))) (m2 := am_m_X6_done) (as := [az_r 5, az_i (((zn S 1 : Nat) : Int))]) (rest := []) 55 rfl rfl ⟨rfl, rfl⟩ (by omega) (zs_X6_done (s := am_up (am_up s 3 3 ((((zn S 1 : Nat) : Int) + 1))) 3 (135 + 4 * (zn S 1) + 0) (-1)) (v := (((zn S 1 : Nat) : Int))) (by omega) ) ?_
    refine az_to 0 (pc2 := 55) (lv2 := [some (az_r 4), some (az_i (((zn S 1 : Nat) : Int)))]) (st2 := [az_r 5]) (s2 := am_up (am_up (am_up (am_up s 3 3 ((((zn S 1 : Nat) : Int) + 1))) 3 (135 + 4 * (zn S 1) + 0) (-1)) 5 0 (0)) 5 1 ((((zn S 1 : Nat) : Int)))) rfl ?_
    refine az_retA rfl rfl ?_
    have e : zo_troll S  = (0, (((zn S 1 : Nat) : Int)), 0, zup (zup S (126 + 4 * zn S 1 + 0) (-1)) 1 (S 1 + 1)) := by
      simp only [zo_troll, Int.toNat_natCast]
      rw [if_neg (by omega)]
    rw [e]
    exact ⟨rfl, ⟨(by have q := zRel_troll hR hI (by omega); rw [← hz.2.1.2.1] at q ⊢; exact q), rfl, fun _ => rfl, fun h => absurd (show (0 : Nat) = 3 from h) (by decide), (fun i h3 h5 => by funext j; simp only [am_up, if_neg h3, if_neg h5])⟩⟩
  · have h1 : ¬ (((zn S 1 : Nat) : Int) < 6) := h1
    refine az_to 4 (pc2 := 22) (lv2 := [some (az_r 4), some (az_i (((zn S 1 : Nat) : Int)))]) (st2 := [az_i (6), az_i (1), az_r 5]) (s2 := s) rfl ?_
    refine az_clv (v := some (az_r 5)) (t := am_up (am_up (am_up s 5 0 (3)) 5 2 (1)) 5 3 (6)) (m2 := am_m_X6_refused) (as := [az_r 5, az_i (1), az_i (6)]) (rest := []) 25 rfl rfl ⟨rfl, rfl⟩ (by omega) (zs_X6_refused (s := s) (r := 1) (w := 6) (by omega) ) ?_
    refine az_to 0 (pc2 := 25) (lv2 := [some (az_r 4), some (az_i (((zn S 1 : Nat) : Int)))]) (st2 := [az_r 5]) (s2 := am_up (am_up (am_up s 5 0 (3)) 5 2 (1)) 5 3 (6)) rfl ?_
    refine az_retA rfl rfl ?_
    have e : zo_troll S  = (3, 1, 6, S) := by
      simp only [zo_troll, Int.toNat_natCast]
      first | (rw [if_pos (by omega)]) | (rw [if_neg (by omega), if_pos (by omega)]) | (rw [if_neg (by omega), if_neg (by omega), if_pos (by omega)]) | (rw [if_neg (by omega), if_neg (by omega), if_neg (by omega), if_pos (by omega)]) | (rw [if_neg (by omega), if_neg (by omega), if_neg (by omega), if_neg (by omega), if_pos (by omega)]) | (rw [if_neg (by omega), if_neg (by omega), if_neg (by omega), if_neg (by omega)]) | (rw [if_neg (by omega), if_neg (by omega), if_neg (by omega)]) | (rw [if_neg (by omega), if_neg (by omega)]) | (rw [if_neg (by omega)])
    rw [e]
    exact ⟨rfl, ⟨hR, rfl, fun h => absurd (show (3 : Nat) = 0 from h) (by decide), fun _ => ⟨rfl, rfl⟩, (fun i h3 h5 => by funext j; simp only [am_up, if_neg h3, if_neg h5])⟩⟩
set_option maxRecDepth 100000 in
set_option maxHeartbeats 800000 in
theorem zs_X0_addGoat {d : Nat} {s : az_S} (hd : 3 ≤ d) {S : zR} {h : Nat} (hR : zRel (s 3) S) (hI : zInv S h) (hh : h ≤ 10000) {zl : Int} {zc : Int} (h_zl : az_in zl) (h_zc : az_in zc) : az_R d am_m_X0_addGoat 0 (az_ini (am_mL am_m_X0_addGoat) [az_r 4, az_i (zl), az_i (zc)]) [] (s) (zCq s (zo_goat S zl zc)) := by
  have hz := zI_h hI hh
  refine az_to 0 (pc2 := 0) (lv2 := [some (az_r 4), some (az_i (zl)), some (az_i (zc)), none]) (st2 := []) (s2 := s) rfl ?_
  refine az_to 1 (pc2 := 1) (lv2 := [some (az_r 4), some (az_i (zl)), some (az_i (zc)), none]) (st2 := [az_i (zl)]) (s2 := s) rfl ?_
  refine az_clv (v := some (az_i (az_b (0 ≤ zl ∧ zl ≤ 5)))) (t := s) (m2 := am_m_X9_isLand) (as := [az_i (zl)]) (rest := []) 4 rfl rfl ⟨rfl, rfl⟩ (by omega) (zs_X9_isLand (s := s) (z := zl) (by omega) (by first | assumption | exact ⟨by omega, by omega⟩)) ?_
  refine az_to 0 (pc2 := 4) (lv2 := [some (az_r 4), some (az_i (zl)), some (az_i (zc)), none]) (st2 := [az_i (az_b (0 ≤ zl ∧ zl ≤ 5))]) (s2 := s) rfl ?_
  refine az_ifbn 15 7 rfl (by decide) (fun h1 => ?_) (fun h1 => ?_)
  · have h1 : 0 ≤ zl ∧ zl ≤ 5 := h1
    refine az_to 3 (pc2 := 19) (lv2 := [some (az_r 4), some (az_i (zl)), some (az_i (zc)), none]) (st2 := [az_i (99), az_i (0), az_i (zc)]) (s2 := s) rfl ?_
    refine az_clv (v := some (az_i (az_b (0 ≤ zc ∧ zc ≤ 99)))) (t := s) (m2 := am_m_X9_isWithin) (as := [az_i (zc), az_i (0), az_i (99)]) (rest := []) 22 rfl rfl ⟨rfl, rfl⟩ (by omega) (zs_X9_isWithin (s := s) (z := zc) (lo := 0) (hi := 99) (by omega) (by first | assumption | exact ⟨by omega, by omega⟩) ⟨by decide, by decide⟩ ⟨by decide, by decide⟩) ?_
    refine az_to 0 (pc2 := 22) (lv2 := [some (az_r 4), some (az_i (zl)), some (az_i (zc)), none]) (st2 := [az_i (az_b (0 ≤ zc ∧ zc ≤ 99))]) (s2 := s) rfl ?_
    refine az_ifbn 33 25 rfl (by decide) (fun h2 => ?_) (fun h2 => ?_)
    · have h2 : 0 ≤ zc ∧ zc ≤ 99 := h2
      refine az_to 3 (pc2 := 38) (lv2 := [some (az_r 4), some (az_i (zl)), some (az_i (zc)), none]) (st2 := [az_i (4), az_r 1]) (s2 := s) rfl ?_
      refine az_clv (v := some (az_i (((zn S 2 : Nat) : Int)))) (t := s) (m2 := am_m_X8_of) (as := [az_r 1, az_i (4)]) (rest := []) 41 rfl rfl ⟨rfl, rfl⟩ (by omega) (zs_X8_of_4 (s := s)  (by omega) hR hI hh) ?_
      refine az_to 0 (pc2 := 41) (lv2 := [some (az_r 4), some (az_i (zl)), some (az_i (zc)), none]) (st2 := [az_i (((zn S 2 : Nat) : Int))]) (s2 := s) rfl ?_
      refine az_to 3 (pc2 := 44) (lv2 := [some (az_r 4), some (az_i (zl)), some (az_i (zc)), some (az_i (((zn S 2 : Nat) : Int)))]) (st2 := [az_i (5), az_i (((zn S 2 : Nat) : Int))]) (s2 := s) rfl ?_
      refine az_if2 57 47 rfl (by decide) (by first | assumption | exact ⟨by omega, by omega⟩) ⟨by decide, by decide⟩ (fun h3 => ?_) (fun h3 => ?_)
      · have h3 : ((zn S 2 : Nat) : Int) < 5 := h3
        refine az_to 6 (pc2 := 65) (lv2 := [some (az_r 4), some (az_i (zl)), some (az_i (zc)), some (az_i (((zn S 2 : Nat) : Int)))]) (st2 := [az_i ((((zn S 2 : Nat) : Int) + 1)), az_i (4), az_r 1]) (s2 := s) rfl ?_
        refine az_clv (v := none) (t := am_up s 3 4 ((((zn S 2 : Nat) : Int) + 1))) (m2 := am_m_X8_set) (as := [az_r 1, az_i (4), az_i ((((zn S 2 : Nat) : Int) + 1))]) (rest := []) 68 rfl rfl ⟨rfl, rfl⟩ (by omega) (zs_X8_set (s := s) (k := 4) (v := ((((zn S 2 : Nat) : Int) + 1))) (by omega) (by omega)) ?_
        refine az_to 0 (pc2 := 68) (lv2 := [some (az_r 4), some (az_i (zl)), some (az_i (zc)), some (az_i (((zn S 2 : Nat) : Int)))]) (st2 := []) (s2 := am_up s 3 4 ((((zn S 2 : Nat) : Int) + 1))) rfl ?_
        refine az_to 6 (pc2 := 78) (lv2 := [some (az_r 4), some (az_i (zl)), some (az_i (zc)), some (az_i (((zn S 2 : Nat) : Int)))]) (st2 := [az_i (1), az_r 1, az_i (1), az_r 1]) (s2 := am_up s 3 4 ((((zn S 2 : Nat) : Int) + 1))) rfl ?_
        refine az_clv (v := some (az_i ((am_up s 3 4 ((((zn S 2 : Nat) : Int) + 1))) 3 1))) (t := am_up s 3 4 ((((zn S 2 : Nat) : Int) + 1))) (m2 := am_m_X8_of) (as := [az_r 1, az_i (1)]) (rest := [az_i (1), az_r 1]) 81 rfl rfl ⟨rfl, rfl⟩ (by omega) (zs_X8_of_raw (s := am_up s 3 4 ((((zn S 2 : Nat) : Int) + 1))) (k := 1) (by omega) (by omega)) ?_
        refine az_to 0 (pc2 := 81) (lv2 := [some (az_r 4), some (az_i (zl)), some (az_i (zc)), some (az_i (((zn S 2 : Nat) : Int)))]) (st2 := [az_i ((am_up s 3 4 ((((zn S 2 : Nat) : Int) + 1))) 3 1), az_i (1), az_r 1]) (s2 := am_up s 3 4 ((((zn S 2 : Nat) : Int) + 1))) rfl ?_
        refine az_to 0 (pc2 := 81) (lv2 := [some (az_r 4), some (az_i (zl)), some (az_i (zc)), some (az_i (((zn S 2 : Nat) : Int)))]) (st2 := [az_i (S 5), az_i (1), az_r 1]) (s2 := am_up s 3 4 ((((zn S 2 : Nat) : Int) + 1))) (by rw [show (am_up s 3 4 ((((zn S 2 : Nat) : Int) + 1))) 3 1 = S 5 from hR.1.2.1]; rfl) ?_
        refine az_to 2 (pc2 := 83) (lv2 := [some (az_r 4), some (az_i (zl)), some (az_i (zc)), some (az_i (((zn S 2 : Nat) : Int)))]) (st2 := [az_i ((S 5 + zc)), az_i (1), az_r 1]) (s2 := am_up s 3 4 ((((zn S 2 : Nat) : Int) + 1))) rfl ?_
        refine az_clv (v := none) (t := am_up (am_up s 3 4 ((((zn S 2 : Nat) : Int) + 1))) 3 1 ((S 5 + zc))) (m2 := am_m_X8_set) (as := [az_r 1, az_i (1), az_i ((S 5 + zc))]) (rest := []) 86 rfl rfl ⟨rfl, rfl⟩ (by omega) (zs_X8_set (s := am_up s 3 4 ((((zn S 2 : Nat) : Int) + 1))) (k := 1) (v := ((S 5 + zc))) (by omega) (by omega)) ?_
        refine az_to 0 (pc2 := 86) (lv2 := [some (az_r 4), some (az_i (zl)), some (az_i (zc)), some (az_i (((zn S 2 : Nat) : Int)))]) (st2 := []) (s2 := am_up (am_up s 3 4 ((((zn S 2 : Nat) : Int) + 1))) 3 1 ((S 5 + zc))) rfl ?_
        refine az_to 5 (pc2 := 93) (lv2 := [some (az_r 4), some (az_i (zl)), some (az_i (zc)), some (az_i (((zn S 2 : Nat) : Int)))]) (st2 := [az_i (zl), az_i (0), az_i (((zn S 2 : Nat) : Int)), az_r 1]) (s2 := am_up (am_up s 3 4 ((((zn S 2 : Nat) : Int) + 1))) 3 1 ((S 5 + zc))) rfl ?_
        refine az_clv (v := none) (t := am_up (am_up (am_up s 3 4 ((((zn S 2 : Nat) : Int) + 1))) 3 1 ((S 5 + zc))) 3 (159 + 5 * (zn S 2) + 0) zl) (m2 := am_m_X8_setGoat) (as := [az_r 1, az_i (((zn S 2 : Nat) : Int)), az_i (0), az_i (zl)]) (rest := []) 96 rfl rfl ⟨rfl, rfl⟩ (by omega) (zs_X8_setGoat (s := am_up (am_up s 3 4 ((((zn S 2 : Nat) : Int) + 1))) 3 1 ((S 5 + zc))) (g := (zn S 2)) (k := 0) (v := zl) (by omega) (by omega) (by omega)) ?_
        refine az_to 0 (pc2 := 96) (lv2 := [some (az_r 4), some (az_i (zl)), some (az_i (zc)), some (az_i (((zn S 2 : Nat) : Int)))]) (st2 := []) (s2 := am_up (am_up (am_up s 3 4 ((((zn S 2 : Nat) : Int) + 1))) 3 1 ((S 5 + zc))) 3 (159 + 5 * (zn S 2) + 0) zl) rfl ?_
        refine az_to 5 (pc2 := 103) (lv2 := [some (az_r 4), some (az_i (zl)), some (az_i (zc)), some (az_i (((zn S 2 : Nat) : Int)))]) (st2 := [az_i (zc), az_i (1), az_i (((zn S 2 : Nat) : Int)), az_r 1]) (s2 := am_up (am_up (am_up s 3 4 ((((zn S 2 : Nat) : Int) + 1))) 3 1 ((S 5 + zc))) 3 (159 + 5 * (zn S 2) + 0) zl) rfl ?_
        refine az_clv (v := none) (t := am_up (am_up (am_up (am_up s 3 4 ((((zn S 2 : Nat) : Int) + 1))) 3 1 ((S 5 + zc))) 3 (159 + 5 * (zn S 2) + 0) zl) 3 (159 + 5 * (zn S 2) + 1) zc) (m2 := am_m_X8_setGoat) (as := [az_r 1, az_i (((zn S 2 : Nat) : Int)), az_i (1), az_i (zc)]) (rest := []) 106 rfl rfl ⟨rfl, rfl⟩ (by omega) (zs_X8_setGoat (s := am_up (am_up (am_up s 3 4 ((((zn S 2 : Nat) : Int) + 1))) 3 1 ((S 5 + zc))) 3 (159 + 5 * (zn S 2) + 0) zl) (g := (zn S 2)) (k := 1) (v := zc) (by omega) (by omega) (by omega)) ?_
        refine az_to 0 (pc2 := 106) (lv2 := [some (az_r 4), some (az_i (zl)), some (az_i (zc)), some (az_i (((zn S 2 : Nat) : Int)))]) (st2 := []) (s2 := am_up (am_up (am_up (am_up s 3 4 ((((zn S 2 : Nat) : Int) + 1))) 3 1 ((S 5 + zc))) 3 (159 + 5 * (zn S 2) + 0) zl) 3 (159 + 5 * (zn S 2) + 1) zc) rfl ?_
        refine az_to 3 (pc2 := 111) (lv2 := [some (az_r 4), some (az_i (zl)), some (az_i (zc)), some (az_i (((zn S 2 : Nat) : Int)))]) (st2 := [az_i (((zn S 2 : Nat) : Int)), az_r 5]) (s2 := am_up (am_up (am_up (am_up s 3 4 ((((zn S 2 : Nat) : Int) + 1))) 3 1 ((S 5 + zc))) 3 (159 + 5 * (zn S 2) + 0) zl) 3 (159 + 5 * (zn S 2) + 1) zc) rfl ?_
        refine az_clv (v := some (az_r 5)) (t := am_up (am_up (am_up (am_up (am_up (am_up s 3 4 ((((zn S 2 : Nat) : Int) + 1))) 3 1 ((S 5 + zc))) 3 (159 + 5 * (zn S 2) + 0) zl) 3 (159 + 5 * (zn S 2) + 1) zc) 5 0 (0)) 5 1 ((((zn S 2 : Nat) : Int)))) (m2 := am_m_X6_done) (as := [az_r 5, az_i (((zn S 2 : Nat) : Int))]) (rest := []) 114 rfl rfl ⟨rfl, rfl⟩ (by omega) (zs_X6_done (s := am_up (am_up (am_up (am_up s 3 4 ((((zn S 2 : Nat) : Int) + 1))) 3 1 ((S 5 + zc))) 3 (159 + 5 * (zn S 2) + 0) zl) 3 (159 + 5 * (zn S 2) + 1) zc) (v := (((zn S 2 : Nat) : Int))) (by omega) ) ?_
        refine az_to 0 (pc2 := 114) (lv2 := [some (az_r 4), some (az_i (zl)), some (az_i (zc)), some (az_i (((zn S 2 : Nat) : Int)))]) (st2 := [az_r 5]) (s2 := am_up (am_up (am_up (am_up (am_up (am_up s 3 4 ((((zn S 2 : Nat) : Int) + 1))) 3 1 ((S 5 + zc))) 3 (159 + 5 * (zn S 2) + 0) zl) 3 (159 + 5 * (zn S 2) + 1) zc) 5 0 (0)) 5 1 ((((zn S 2 : Nat) : Int)))) rfl ?_
        refine az_retA rfl rfl ?_
        have e : zo_goat S zl zc = (0, (((zn S 2 : Nat) : Int)), 0, zup (zup (zup (zup S (150 + 5 * zn S 2 + 0) zl) (150 + 5 * zn S 2 + 1) zc) 2 (S 2 + 1)) 5 (S 5 + zc)) := by
          simp only [zo_goat, Int.toNat_natCast]
          rw [if_neg (by omega), if_neg (by omega), if_neg (by omega)]
        rw [e]
        exact ⟨rfl, ⟨(by have q := zRel_goat hR hI (by omega) zl zc; rw [← hz.2.1.2.2] at q ⊢; exact q), rfl, fun _ => rfl, fun h => absurd (show (0 : Nat) = 3 from h) (by decide), (fun i h3 h5 => by funext j; simp only [am_up, if_neg h3, if_neg h5])⟩⟩
      · have h3 : ¬ (((zn S 2 : Nat) : Int) < 5) := h3
        refine az_to 4 (pc2 := 53) (lv2 := [some (az_r 4), some (az_i (zl)), some (az_i (zc)), some (az_i (((zn S 2 : Nat) : Int)))]) (st2 := [az_i (5), az_i (1), az_r 5]) (s2 := s) rfl ?_
        refine az_clv (v := some (az_r 5)) (t := am_up (am_up (am_up s 5 0 (3)) 5 2 (1)) 5 3 (5)) (m2 := am_m_X6_refused) (as := [az_r 5, az_i (1), az_i (5)]) (rest := []) 56 rfl rfl ⟨rfl, rfl⟩ (by omega) (zs_X6_refused (s := s) (r := 1) (w := 5) (by omega) ) ?_
        refine az_to 0 (pc2 := 56) (lv2 := [some (az_r 4), some (az_i (zl)), some (az_i (zc)), some (az_i (((zn S 2 : Nat) : Int)))]) (st2 := [az_r 5]) (s2 := am_up (am_up (am_up s 5 0 (3)) 5 2 (1)) 5 3 (5)) rfl ?_
        refine az_retA rfl rfl ?_
        have e : zo_goat S zl zc = (3, 1, 5, S) := by
          simp only [zo_goat, Int.toNat_natCast]
          first | (rw [if_pos (by omega)]) | (rw [if_neg (by omega), if_pos (by omega)]) | (rw [if_neg (by omega), if_neg (by omega), if_pos (by omega)]) | (rw [if_neg (by omega), if_neg (by omega), if_neg (by omega), if_pos (by omega)]) | (rw [if_neg (by omega), if_neg (by omega), if_neg (by omega), if_neg (by omega), if_pos (by omega)]) | (rw [if_neg (by omega), if_neg (by omega), if_neg (by omega), if_neg (by omega)]) | (rw [if_neg (by omega), if_neg (by omega), if_neg (by omega)]) | (rw [if_neg (by omega), if_neg (by omega)]) | (rw [if_neg (by omega)])
        rw [e]
        exact ⟨rfl, ⟨hR, rfl, fun h => absurd (show (3 : Nat) = 0 from h) (by decide), fun _ => ⟨rfl, rfl⟩, (fun i h3 h5 => by funext j; simp only [am_up, if_neg h3, if_neg h5])⟩⟩
    · have h2 : ¬ (0 ≤ zc ∧ zc ≤ 99) := h2
      refine az_to 2 (pc2 := 29) (lv2 := [some (az_r 4), some (az_i (zl)), some (az_i (zc)), none]) (st2 := [az_r 5]) (s2 := s) rfl ?_
      refine az_clv (v := some (az_r 5)) (t := am_up s 5 0 (2)) (m2 := am_m_X6_outOfRange) (as := [az_r 5]) (rest := []) 32 rfl rfl ⟨rfl, rfl⟩ (by omega) (zs_X6_outOfRange (s := s)  (by omega) ) ?_
      refine az_to 0 (pc2 := 32) (lv2 := [some (az_r 4), some (az_i (zl)), some (az_i (zc)), none]) (st2 := [az_r 5]) (s2 := am_up s 5 0 (2)) rfl ?_
      refine az_retA rfl rfl ?_
      have e : zo_goat S zl zc = (2, 0, 0, S) := by
        simp only [zo_goat, Int.toNat_natCast]
        first | (rw [if_pos (by omega)]) | (rw [if_neg (by omega), if_pos (by omega)]) | (rw [if_neg (by omega), if_neg (by omega), if_pos (by omega)]) | (rw [if_neg (by omega), if_neg (by omega), if_neg (by omega), if_pos (by omega)]) | (rw [if_neg (by omega), if_neg (by omega), if_neg (by omega), if_neg (by omega), if_pos (by omega)]) | (rw [if_neg (by omega), if_neg (by omega), if_neg (by omega), if_neg (by omega)]) | (rw [if_neg (by omega), if_neg (by omega), if_neg (by omega)]) | (rw [if_neg (by omega), if_neg (by omega)]) | (rw [if_neg (by omega)])
      rw [e]
      exact ⟨rfl, ⟨hR, rfl, fun h => absurd (show (2 : Nat) = 0 from h) (by decide), fun h => absurd (show (2 : Nat) = 3 from h) (by decide), (fun i h3 h5 => by funext j; simp only [am_up, if_neg h3, if_neg h5])⟩⟩
  · have h1 : ¬ (0 ≤ zl ∧ zl ≤ 5) := h1
    refine az_to 2 (pc2 := 11) (lv2 := [some (az_r 4), some (az_i (zl)), some (az_i (zc)), none]) (st2 := [az_r 5]) (s2 := s) rfl ?_
    refine az_clv (v := some (az_r 5)) (t := am_up s 5 0 (1)) (m2 := am_m_X6_noSuch) (as := [az_r 5]) (rest := []) 14 rfl rfl ⟨rfl, rfl⟩ (by omega) (zs_X6_noSuch (s := s)  (by omega) ) ?_
    refine az_to 0 (pc2 := 14) (lv2 := [some (az_r 4), some (az_i (zl)), some (az_i (zc)), none]) (st2 := [az_r 5]) (s2 := am_up s 5 0 (1)) rfl ?_
    refine az_retA rfl rfl ?_
    have e : zo_goat S zl zc = (1, 0, 0, S) := by
      simp only [zo_goat, Int.toNat_natCast]
      first | (rw [if_pos (by omega)]) | (rw [if_neg (by omega), if_pos (by omega)]) | (rw [if_neg (by omega), if_neg (by omega), if_pos (by omega)]) | (rw [if_neg (by omega), if_neg (by omega), if_neg (by omega), if_pos (by omega)]) | (rw [if_neg (by omega), if_neg (by omega), if_neg (by omega), if_neg (by omega), if_pos (by omega)]) | (rw [if_neg (by omega), if_neg (by omega), if_neg (by omega), if_neg (by omega)]) | (rw [if_neg (by omega), if_neg (by omega), if_neg (by omega)]) | (rw [if_neg (by omega), if_neg (by omega)]) | (rw [if_neg (by omega)])
    rw [e]
    exact ⟨rfl, ⟨hR, rfl, fun h => absurd (show (1 : Nat) = 0 from h) (by decide), fun h => absurd (show (1 : Nat) = 3 from h) (by decide), (fun i h3 h5 => by funext j; simp only [am_up, if_neg h3, if_neg h5])⟩⟩
set_option maxRecDepth 100000 in
set_option maxHeartbeats 800000 in
theorem zs_X0_postTroll {d : Nat} {s : az_S} (hd : 3 ≤ d) {S : zR} {h : Nat} (hR : zRel (s 3) S) (hI : zInv S h) (hh : h ≤ 10000) {zt : Int} {zb : Int} (h_zt : az_in zt) (h_zb : az_in zb) : az_R d am_m_X0_postTroll 0 (az_ini (am_mL am_m_X0_postTroll) [az_r 4, az_i (zt), az_i (zb)]) [] (s) (zCq s (zo_post S zt zb)) := by
  have hz := zI_h hI hh
  refine az_to 0 (pc2 := 0) (lv2 := [some (az_r 4), some (az_i (zt)), some (az_i (zb)), none]) (st2 := []) (s2 := s) rfl ?_
  refine az_to 3 (pc2 := 5) (lv2 := [some (az_r 4), some (az_i (zt)), some (az_i (zb)), none]) (st2 := [az_i (zt), az_r 1]) (s2 := s) rfl ?_
  refine az_clv (v := some (az_i (az_b (0 ≤ zt ∧ zt < ((zn S 1 : Nat) : Int))))) (t := s) (m2 := am_m_X8_isTroll) (as := [az_r 1, az_i (zt)]) (rest := []) 8 rfl rfl ⟨rfl, rfl⟩ (by omega) (zs_X8_isTroll (s := s) (z := zt) (by omega) hR hI hh (by first | assumption | exact ⟨by omega, by omega⟩)) ?_
  refine az_to 0 (pc2 := 8) (lv2 := [some (az_r 4), some (az_i (zt)), some (az_i (zb)), none]) (st2 := [az_i (az_b (0 ≤ zt ∧ zt < ((zn S 1 : Nat) : Int)))]) (s2 := s) rfl ?_
  refine az_ifbe 22 11 rfl (by decide) (fun h1 => ?_) (fun h1 => ?_)
  · have h1 : ¬ (0 ≤ zt ∧ zt < ((zn S 1 : Nat) : Int)) := h1
    refine az_to 2 (pc2 := 26) (lv2 := [some (az_r 4), some (az_i (zt)), some (az_i (zb)), none]) (st2 := [az_r 5]) (s2 := s) rfl ?_
    refine az_clv (v := some (az_r 5)) (t := am_up s 5 0 (1)) (m2 := am_m_X6_noSuch) (as := [az_r 5]) (rest := []) 29 rfl rfl ⟨rfl, rfl⟩ (by omega) (zs_X6_noSuch (s := s)  (by omega) ) ?_
    refine az_to 0 (pc2 := 29) (lv2 := [some (az_r 4), some (az_i (zt)), some (az_i (zb)), none]) (st2 := [az_r 5]) (s2 := am_up s 5 0 (1)) rfl ?_
    refine az_retA rfl rfl ?_
    have e : zo_post S zt zb = (1, 0, 0, S) := by
      simp only [zo_post, Int.toNat_natCast]
      first | (rw [if_pos (by omega)]) | (rw [if_neg (by omega), if_pos (by omega)]) | (rw [if_neg (by omega), if_neg (by omega), if_pos (by omega)]) | (rw [if_neg (by omega), if_neg (by omega), if_neg (by omega), if_pos (by omega)]) | (rw [if_neg (by omega), if_neg (by omega), if_neg (by omega), if_neg (by omega), if_pos (by omega)]) | (rw [if_neg (by omega), if_neg (by omega), if_neg (by omega), if_neg (by omega)]) | (rw [if_neg (by omega), if_neg (by omega), if_neg (by omega)]) | (rw [if_neg (by omega), if_neg (by omega)]) | (rw [if_neg (by omega)])
    rw [e]
    exact ⟨rfl, ⟨hR, rfl, fun h => absurd (show (1 : Nat) = 0 from h) (by decide), fun h => absurd (show (1 : Nat) = 3 from h) (by decide), (fun i h3 h5 => by funext j; simp only [am_up, if_neg h3, if_neg h5])⟩⟩
  · have h1 : 0 ≤ zt ∧ zt < ((zn S 1 : Nat) : Int) := h1
    obtain ⟨t, rfl⟩ : ∃ n0 : Nat, zt = n0 := ⟨zt.toNat, by omega⟩
    have hzt := zI_t hI hh (t := t) (by omega)
    have hzu := hI.2.2.2.2.2.1 t (by omega)
    refine az_to 0 (pc2 := 11) (lv2 := [some (az_r 4), some (az_i (((t : Nat) : Int))), some (az_i (zb)), none]) (st2 := []) (s2 := s) (rfl) ?_
    refine az_to 3 (pc2 := 16) (lv2 := [some (az_r 4), some (az_i (((t : Nat) : Int))), some (az_i (zb)), none]) (st2 := [az_i (zb), az_r 1]) (s2 := s) rfl ?_
    refine az_clv (v := some (az_i (az_b (0 ≤ zb ∧ zb < ((zn S 0 : Nat) : Int))))) (t := s) (m2 := am_m_X8_isBridge) (as := [az_r 1, az_i (zb)]) (rest := []) 19 rfl rfl ⟨rfl, rfl⟩ (by omega) (zs_X8_isBridge (s := s) (z := zb) (by omega) hR hI hh (by first | assumption | exact ⟨by omega, by omega⟩)) ?_
    refine az_to 0 (pc2 := 19) (lv2 := [some (az_r 4), some (az_i (((t : Nat) : Int))), some (az_i (zb)), none]) (st2 := [az_i (az_b (0 ≤ zb ∧ zb < ((zn S 0 : Nat) : Int)))]) (s2 := s) rfl ?_
    refine az_ifbn 30 22 rfl (by decide) (fun h2 => ?_) (fun h2 => ?_)
    · have h2 : 0 ≤ zb ∧ zb < ((zn S 0 : Nat) : Int) := h2
      obtain ⟨b, rfl⟩ : ∃ n0 : Nat, zb = n0 := ⟨zb.toNat, by omega⟩
      have hzb := zI_b hI hh (b := b) (by omega)
      refine az_to 0 (pc2 := 30) (lv2 := [some (az_r 4), some (az_i (((t : Nat) : Int))), some (az_i (((b : Nat) : Int))), none]) (st2 := []) (s2 := s) (rfl) ?_
      refine az_to 4 (pc2 := 36) (lv2 := [some (az_r 4), some (az_i (((t : Nat) : Int))), some (az_i (((b : Nat) : Int))), none]) (st2 := [az_i (0), az_i (((t : Nat) : Int)), az_r 1]) (s2 := s) rfl ?_
      refine az_clv (v := some (az_i (zT S t 0))) (t := s) (m2 := am_m_X8_ofTroll) (as := [az_r 1, az_i (((t : Nat) : Int)), az_i (0)]) (rest := []) 39 rfl rfl ⟨rfl, rfl⟩ (by omega) (zs_X8_ofTroll (s := s) (t := t) (k := 0) (by omega) hR (by omega) (by omega)) ?_
      refine az_to 0 (pc2 := 39) (lv2 := [some (az_r 4), some (az_i (((t : Nat) : Int))), some (az_i (((b : Nat) : Int))), none]) (st2 := [az_i (zT S t 0)]) (s2 := s) rfl ?_
      refine az_to 3 (pc2 := 42) (lv2 := [some (az_r 4), some (az_i (((t : Nat) : Int))), some (az_i (((b : Nat) : Int))), some (az_i (zT S t 0))]) (st2 := [az_i (((b : Nat) : Int)), az_i (zT S t 0)]) (s2 := s) rfl ?_
      refine az_if2 55 45 rfl (by decide) (by first | assumption | exact ⟨by omega, by omega⟩) (by first | assumption | exact ⟨by omega, by omega⟩) (fun h3 => ?_) (fun h3 => ?_)
      · have h3 : ¬ zT S t 0 = ((b : Nat) : Int) := h3
        refine az_to 2 (pc2 := 57) (lv2 := [some (az_r 4), some (az_i (((t : Nat) : Int))), some (az_i (((b : Nat) : Int))), some (az_i (zT S t 0))]) (st2 := [az_i (-1), az_i (zT S t 0)]) (s2 := s) rfl ?_
        refine az_if2 91 60 rfl (by decide) (by first | assumption | exact ⟨by omega, by omega⟩) ⟨by decide, by decide⟩ (fun h4 => ?_) (fun h4 => ?_)
        · have h4 : zT S t 0 = -1 := h4
          refine az_to 3 (pc2 := 96) (lv2 := [some (az_r 4), some (az_i (((t : Nat) : Int))), some (az_i (((b : Nat) : Int))), some (az_i (zT S t 0))]) (st2 := [az_i (((b : Nat) : Int)), az_r 1]) (s2 := s) rfl ?_
          refine az_clv (v := some (az_i (az_b (0 ≤ zat S b)))) (t := s) (m2 := am_m_X8_isCounted) (as := [az_r 1, az_i (((b : Nat) : Int))]) (rest := []) 99 rfl rfl ⟨rfl, rfl⟩ (by omega) (zs_X8_isCounted (s := s) (b := b) (by omega) hR hI hh (by omega)) ?_
          refine az_to 0 (pc2 := 99) (lv2 := [some (az_r 4), some (az_i (((t : Nat) : Int))), some (az_i (((b : Nat) : Int))), some (az_i (zT S t 0))]) (st2 := [az_i (az_b (0 ≤ zat S b))]) (s2 := s) rfl ?_
          refine az_ifbe 120 102 rfl (by decide) (fun h5 => ?_) (fun h5 => ?_)
          · have h5 : ¬ (0 ≤ zat S b) := h5
            refine az_to 2 (pc2 := 122) (lv2 := [some (az_r 4), some (az_i (((t : Nat) : Int))), some (az_i (((b : Nat) : Int))), some (az_i (zT S t 0))]) (st2 := [az_i (-1), az_i (zT S t 0)]) (s2 := s) rfl ?_
            refine az_if2 135 125 rfl (by decide) (by first | assumption | exact ⟨by omega, by omega⟩) ⟨by decide, by decide⟩ (fun h6 => ?_) (fun h6 => ?_)
            · have h6 : zT S t 0 = -1 := h6
              refine az_to 5 (pc2 := 142) (lv2 := [some (az_r 4), some (az_i (((t : Nat) : Int))), some (az_i (((b : Nat) : Int))), some (az_i (zT S t 0))]) (st2 := [az_i (((b : Nat) : Int)), az_i (0), az_i (((t : Nat) : Int)), az_r 1]) (s2 := s) rfl ?_
              refine az_clv (v := none) (t := am_up s 3 (135 + 4 * t + 0) (((b : Nat) : Int))) (m2 := am_m_X8_setTroll) (as := [az_r 1, az_i (((t : Nat) : Int)), az_i (0), az_i (((b : Nat) : Int))]) (rest := []) 145 rfl rfl ⟨rfl, rfl⟩ (by omega) (zs_X8_setTroll (s := s) (t := t) (k := 0) (v := (((b : Nat) : Int))) (by omega) (by omega) (by omega)) ?_
              refine az_to 0 (pc2 := 145) (lv2 := [some (az_r 4), some (az_i (((t : Nat) : Int))), some (az_i (((b : Nat) : Int))), some (az_i (zT S t 0))]) (st2 := []) (s2 := am_up s 3 (135 + 4 * t + 0) (((b : Nat) : Int))) rfl ?_
              refine az_to 5 (pc2 := 152) (lv2 := [some (az_r 4), some (az_i (((t : Nat) : Int))), some (az_i (((b : Nat) : Int))), some (az_i (zT S t 0))]) (st2 := [az_i (((t : Nat) : Int)), az_i (4), az_i (((b : Nat) : Int)), az_r 1]) (s2 := am_up s 3 (135 + 4 * t + 0) (((b : Nat) : Int))) rfl ?_
              refine az_clv (v := none) (t := am_up (am_up s 3 (135 + 4 * t + 0) (((b : Nat) : Int))) 3 (5 + 13 * b + 4) (((t : Nat) : Int))) (m2 := am_m_X8_setBridge) (as := [az_r 1, az_i (((b : Nat) : Int)), az_i (4), az_i (((t : Nat) : Int))]) (rest := []) 155 rfl rfl ⟨rfl, rfl⟩ (by omega) (zs_X8_setBridge (s := am_up s 3 (135 + 4 * t + 0) (((b : Nat) : Int))) (b := b) (k := 4) (v := (((t : Nat) : Int))) (by omega) (by omega) (by omega)) ?_
              refine az_to 0 (pc2 := 155) (lv2 := [some (az_r 4), some (az_i (((t : Nat) : Int))), some (az_i (((b : Nat) : Int))), some (az_i (zT S t 0))]) (st2 := []) (s2 := am_up (am_up s 3 (135 + 4 * t + 0) (((b : Nat) : Int))) 3 (5 + 13 * b + 4) (((t : Nat) : Int))) rfl ?_
              refine az_to 3 (pc2 := 160) (lv2 := [some (az_r 4), some (az_i (((t : Nat) : Int))), some (az_i (((b : Nat) : Int))), some (az_i (zT S t 0))]) (st2 := [az_i (zT S t 0), az_r 5]) (s2 := am_up (am_up s 3 (135 + 4 * t + 0) (((b : Nat) : Int))) 3 (5 + 13 * b + 4) (((t : Nat) : Int))) rfl ?_
              refine az_clv (v := some (az_r 5)) (t := am_up (am_up (am_up (am_up s 3 (135 + 4 * t + 0) (((b : Nat) : Int))) 3 (5 + 13 * b + 4) (((t : Nat) : Int))) 5 0 (0)) 5 1 ((zT S t 0))) (m2 := am_m_X6_done) (as := [az_r 5, az_i (zT S t 0)]) (rest := []) 163 rfl rfl ⟨rfl, rfl⟩ (by omega) (zs_X6_done (s := am_up (am_up s 3 (135 + 4 * t + 0) (((b : Nat) : Int))) 3 (5 + 13 * b + 4) (((t : Nat) : Int))) (v := (zT S t 0)) (by omega) ) ?_
              refine az_to 0 (pc2 := 163) (lv2 := [some (az_r 4), some (az_i (((t : Nat) : Int))), some (az_i (((b : Nat) : Int))), some (az_i (zT S t 0))]) (st2 := [az_r 5]) (s2 := am_up (am_up (am_up (am_up s 3 (135 + 4 * t + 0) (((b : Nat) : Int))) 3 (5 + 13 * b + 4) (((t : Nat) : Int))) 5 0 (0)) 5 1 ((zT S t 0))) rfl ?_
              refine az_retA rfl rfl ?_
              have e : zo_post S ((t : Nat) : Int) ((b : Nat) : Int) = (0, (zT S t 0), 0, zup S (126 + 4 * t + 0) b) := by
                simp only [zo_post, Int.toNat_natCast]
                rw [if_neg (by omega), if_neg (by omega), if_neg (by omega), if_neg (by omega)]
              rw [e]
              exact ⟨rfl, ⟨(by have q := zRel_post hR hI (t := t) (b := b) (by omega) (by omega) (by assumption); rw [if_pos (by omega)] at q; exact q), rfl, fun _ => rfl, fun h => absurd (show (0 : Nat) = 3 from h) (by decide), (fun i h3 h5 => by funext j; simp only [am_up, if_neg h3, if_neg h5])⟩⟩
            · have h6 : ¬ (zT S t 0 = -1) := h6
              exact absurd h6 (by first | assumption | omega)
          · have h5 : 0 ≤ zat S b := h5
            refine az_to 7 (pc2 := 113) (lv2 := [some (az_r 4), some (az_i (((t : Nat) : Int))), some (az_i (((b : Nat) : Int))), some (az_i (zT S t 0))]) (st2 := [az_i (4), az_i (((b : Nat) : Int)), az_r 1, az_i (4), az_r 5]) (s2 := s) rfl ?_
            refine az_clv (v := some (az_i (zat S b))) (t := s) (m2 := am_m_X8_ofBridge) (as := [az_r 1, az_i (((b : Nat) : Int)), az_i (4)]) (rest := [az_i (4), az_r 5]) 116 rfl rfl ⟨rfl, rfl⟩ (by omega) (zs_X8_ofBridge (s := s) (b := b) (k := 4) (by omega) hR (by omega) (by omega) (by omega)) ?_
            refine az_to 0 (pc2 := 116) (lv2 := [some (az_r 4), some (az_i (((t : Nat) : Int))), some (az_i (((b : Nat) : Int))), some (az_i (zT S t 0))]) (st2 := [az_i (zat S b), az_i (4), az_r 5]) (s2 := s) rfl ?_
            refine az_clv (v := some (az_r 5)) (t := am_up (am_up (am_up s 5 0 (3)) 5 2 (4)) 5 3 ((zat S b))) (m2 := am_m_X6_refused) (as := [az_r 5, az_i (4), az_i (zat S b)]) (rest := []) 119 rfl rfl ⟨rfl, rfl⟩ (by omega) (zs_X6_refused (s := s) (r := 4) (w := (zat S b)) (by omega) ) ?_
            refine az_to 0 (pc2 := 119) (lv2 := [some (az_r 4), some (az_i (((t : Nat) : Int))), some (az_i (((b : Nat) : Int))), some (az_i (zT S t 0))]) (st2 := [az_r 5]) (s2 := am_up (am_up (am_up s 5 0 (3)) 5 2 (4)) 5 3 ((zat S b))) rfl ?_
            refine az_retA rfl rfl ?_
            have e : zo_post S ((t : Nat) : Int) ((b : Nat) : Int) = (3, 4, (zat S b), S) := by
              simp only [zo_post, Int.toNat_natCast]
              first | (rw [if_pos (by omega)]) | (rw [if_neg (by omega), if_pos (by omega)]) | (rw [if_neg (by omega), if_neg (by omega), if_pos (by omega)]) | (rw [if_neg (by omega), if_neg (by omega), if_neg (by omega), if_pos (by omega)]) | (rw [if_neg (by omega), if_neg (by omega), if_neg (by omega), if_neg (by omega), if_pos (by omega)]) | (rw [if_neg (by omega), if_neg (by omega), if_neg (by omega), if_neg (by omega)]) | (rw [if_neg (by omega), if_neg (by omega), if_neg (by omega)]) | (rw [if_neg (by omega), if_neg (by omega)]) | (rw [if_neg (by omega)])
            rw [e]
            exact ⟨rfl, ⟨hR, rfl, fun h => absurd (show (3 : Nat) = 0 from h) (by decide), fun _ => ⟨rfl, rfl⟩, (fun i h3 h5 => by funext j; simp only [am_up, if_neg h3, if_neg h5])⟩⟩
        · have h4 : ¬ (zT S t 0 = -1) := h4
          obtain ⟨a, ha⟩ : ∃ n0 : Nat, zT S t 0 = n0 := ⟨(zT S t 0).toNat, by omega⟩
          have hza := zI_b hI hh (b := a) (by omega)
          refine az_to 0 (pc2 := 60) (lv2 := [some (az_r 4), some (az_i (((t : Nat) : Int))), some (az_i (((b : Nat) : Int))), some (az_i (((a : Nat) : Int)))]) (st2 := []) (s2 := s) (by rw [ha]; rfl) ?_
          refine az_to 3 (pc2 := 65) (lv2 := [some (az_r 4), some (az_i (((t : Nat) : Int))), some (az_i (((b : Nat) : Int))), some (az_i (((a : Nat) : Int)))]) (st2 := [az_i (((a : Nat) : Int)), az_r 1]) (s2 := s) rfl ?_
          refine az_clv (v := some (az_i (az_b (0 ≤ zB S a 5)))) (t := s) (m2 := am_m_X8_isDisputed) (as := [az_r 1, az_i (((a : Nat) : Int))]) (rest := []) 68 rfl rfl ⟨rfl, rfl⟩ (by omega) (zs_X8_isDisputed (s := s) (b := a) (by omega) hR hI hh (by omega)) ?_
          refine az_to 0 (pc2 := 68) (lv2 := [some (az_r 4), some (az_i (((t : Nat) : Int))), some (az_i (((b : Nat) : Int))), some (az_i (((a : Nat) : Int)))]) (st2 := [az_i (az_b (0 ≤ zB S a 5))]) (s2 := s) rfl ?_
          refine az_ifbe 91 71 rfl (by decide) (fun h7 => ?_) (fun h7 => ?_)
          · have h7 : ¬ (0 ≤ zB S a 5) := h7
            refine az_to 3 (pc2 := 96) (lv2 := [some (az_r 4), some (az_i (((t : Nat) : Int))), some (az_i (((b : Nat) : Int))), some (az_i (((a : Nat) : Int)))]) (st2 := [az_i (((b : Nat) : Int)), az_r 1]) (s2 := s) rfl ?_
            refine az_clv (v := some (az_i (az_b (0 ≤ zat S b)))) (t := s) (m2 := am_m_X8_isCounted) (as := [az_r 1, az_i (((b : Nat) : Int))]) (rest := []) 99 rfl rfl ⟨rfl, rfl⟩ (by omega) (zs_X8_isCounted (s := s) (b := b) (by omega) hR hI hh (by omega)) ?_
            refine az_to 0 (pc2 := 99) (lv2 := [some (az_r 4), some (az_i (((t : Nat) : Int))), some (az_i (((b : Nat) : Int))), some (az_i (((a : Nat) : Int)))]) (st2 := [az_i (az_b (0 ≤ zat S b))]) (s2 := s) rfl ?_
            refine az_ifbe 120 102 rfl (by decide) (fun h8 => ?_) (fun h8 => ?_)
            · have h8 : ¬ (0 ≤ zat S b) := h8
              refine az_to 2 (pc2 := 122) (lv2 := [some (az_r 4), some (az_i (((t : Nat) : Int))), some (az_i (((b : Nat) : Int))), some (az_i (((a : Nat) : Int)))]) (st2 := [az_i (-1), az_i (((a : Nat) : Int))]) (s2 := s) rfl ?_
              refine az_if2 135 125 rfl (by decide) (by first | assumption | exact ⟨by omega, by omega⟩) ⟨by decide, by decide⟩ (fun h9 => ?_) (fun h9 => ?_)
              · have h9 : ((a : Nat) : Int) = -1 := h9
                exact absurd h9 (by omega)
              · have h9 : ¬ (((a : Nat) : Int) = -1) := h9
                refine az_to 5 (pc2 := 132) (lv2 := [some (az_r 4), some (az_i (((t : Nat) : Int))), some (az_i (((b : Nat) : Int))), some (az_i (((a : Nat) : Int)))]) (st2 := [az_i (-1), az_i (4), az_i (((a : Nat) : Int)), az_r 1]) (s2 := s) rfl ?_
                refine az_clv (v := none) (t := am_up s 3 (5 + 13 * a + 4) (-1)) (m2 := am_m_X8_setBridge) (as := [az_r 1, az_i (((a : Nat) : Int)), az_i (4), az_i (-1)]) (rest := []) 135 rfl rfl ⟨rfl, rfl⟩ (by omega) (zs_X8_setBridge (s := s) (b := a) (k := 4) (v := (-1)) (by omega) (by omega) (by omega)) ?_
                refine az_to 0 (pc2 := 135) (lv2 := [some (az_r 4), some (az_i (((t : Nat) : Int))), some (az_i (((b : Nat) : Int))), some (az_i (((a : Nat) : Int)))]) (st2 := []) (s2 := am_up s 3 (5 + 13 * a + 4) (-1)) rfl ?_
                refine az_to 5 (pc2 := 142) (lv2 := [some (az_r 4), some (az_i (((t : Nat) : Int))), some (az_i (((b : Nat) : Int))), some (az_i (((a : Nat) : Int)))]) (st2 := [az_i (((b : Nat) : Int)), az_i (0), az_i (((t : Nat) : Int)), az_r 1]) (s2 := am_up s 3 (5 + 13 * a + 4) (-1)) rfl ?_
                refine az_clv (v := none) (t := am_up (am_up s 3 (5 + 13 * a + 4) (-1)) 3 (135 + 4 * t + 0) (((b : Nat) : Int))) (m2 := am_m_X8_setTroll) (as := [az_r 1, az_i (((t : Nat) : Int)), az_i (0), az_i (((b : Nat) : Int))]) (rest := []) 145 rfl rfl ⟨rfl, rfl⟩ (by omega) (zs_X8_setTroll (s := am_up s 3 (5 + 13 * a + 4) (-1)) (t := t) (k := 0) (v := (((b : Nat) : Int))) (by omega) (by omega) (by omega)) ?_
                refine az_to 0 (pc2 := 145) (lv2 := [some (az_r 4), some (az_i (((t : Nat) : Int))), some (az_i (((b : Nat) : Int))), some (az_i (((a : Nat) : Int)))]) (st2 := []) (s2 := am_up (am_up s 3 (5 + 13 * a + 4) (-1)) 3 (135 + 4 * t + 0) (((b : Nat) : Int))) rfl ?_
                refine az_to 5 (pc2 := 152) (lv2 := [some (az_r 4), some (az_i (((t : Nat) : Int))), some (az_i (((b : Nat) : Int))), some (az_i (((a : Nat) : Int)))]) (st2 := [az_i (((t : Nat) : Int)), az_i (4), az_i (((b : Nat) : Int)), az_r 1]) (s2 := am_up (am_up s 3 (5 + 13 * a + 4) (-1)) 3 (135 + 4 * t + 0) (((b : Nat) : Int))) rfl ?_
                refine az_clv (v := none) (t := am_up (am_up (am_up s 3 (5 + 13 * a + 4) (-1)) 3 (135 + 4 * t + 0) (((b : Nat) : Int))) 3 (5 + 13 * b + 4) (((t : Nat) : Int))) (m2 := am_m_X8_setBridge) (as := [az_r 1, az_i (((b : Nat) : Int)), az_i (4), az_i (((t : Nat) : Int))]) (rest := []) 155 rfl rfl ⟨rfl, rfl⟩ (by omega) (zs_X8_setBridge (s := am_up (am_up s 3 (5 + 13 * a + 4) (-1)) 3 (135 + 4 * t + 0) (((b : Nat) : Int))) (b := b) (k := 4) (v := (((t : Nat) : Int))) (by omega) (by omega) (by omega)) ?_
                refine az_to 0 (pc2 := 155) (lv2 := [some (az_r 4), some (az_i (((t : Nat) : Int))), some (az_i (((b : Nat) : Int))), some (az_i (((a : Nat) : Int)))]) (st2 := []) (s2 := am_up (am_up (am_up s 3 (5 + 13 * a + 4) (-1)) 3 (135 + 4 * t + 0) (((b : Nat) : Int))) 3 (5 + 13 * b + 4) (((t : Nat) : Int))) rfl ?_
                refine az_to 3 (pc2 := 160) (lv2 := [some (az_r 4), some (az_i (((t : Nat) : Int))), some (az_i (((b : Nat) : Int))), some (az_i (((a : Nat) : Int)))]) (st2 := [az_i (((a : Nat) : Int)), az_r 5]) (s2 := am_up (am_up (am_up s 3 (5 + 13 * a + 4) (-1)) 3 (135 + 4 * t + 0) (((b : Nat) : Int))) 3 (5 + 13 * b + 4) (((t : Nat) : Int))) rfl ?_
                refine az_clv (v := some (az_r 5)) (t := am_up (am_up (am_up (am_up (am_up s 3 (5 + 13 * a + 4) (-1)) 3 (135 + 4 * t + 0) (((b : Nat) : Int))) 3 (5 + 13 * b + 4) (((t : Nat) : Int))) 5 0 (0)) 5 1 ((((a : Nat) : Int)))) (m2 := am_m_X6_done) (as := [az_r 5, az_i (((a : Nat) : Int))]) (rest := []) 163 rfl rfl ⟨rfl, rfl⟩ (by omega) (zs_X6_done (s := am_up (am_up (am_up s 3 (5 + 13 * a + 4) (-1)) 3 (135 + 4 * t + 0) (((b : Nat) : Int))) 3 (5 + 13 * b + 4) (((t : Nat) : Int))) (v := (((a : Nat) : Int))) (by omega) ) ?_
                refine az_to 0 (pc2 := 163) (lv2 := [some (az_r 4), some (az_i (((t : Nat) : Int))), some (az_i (((b : Nat) : Int))), some (az_i (((a : Nat) : Int)))]) (st2 := [az_r 5]) (s2 := am_up (am_up (am_up (am_up (am_up s 3 (5 + 13 * a + 4) (-1)) 3 (135 + 4 * t + 0) (((b : Nat) : Int))) 3 (5 + 13 * b + 4) (((t : Nat) : Int))) 5 0 (0)) 5 1 ((((a : Nat) : Int)))) rfl ?_
                refine az_retA rfl rfl ?_
                have e : zo_post S ((t : Nat) : Int) ((b : Nat) : Int) = (0, (((a : Nat) : Int)), 0, zup S (126 + 4 * t + 0) b) := by
                  simp only [zo_post, Int.toNat_natCast, ha]
                  rw [if_neg (by omega), if_neg (by omega), if_neg (by omega), if_neg (by omega)]
                rw [e]
                exact ⟨rfl, ⟨(by have q := zRel_post hR hI (t := t) (b := b) (by omega) (by omega) (by assumption); rw [if_neg (by omega), ha] at q; exact q), rfl, fun _ => rfl, fun h => absurd (show (0 : Nat) = 3 from h) (by decide), (fun i h3 h5 => by funext j; simp only [am_up, if_neg h3, if_neg h5])⟩⟩
            · have h8 : 0 ≤ zat S b := h8
              refine az_to 7 (pc2 := 113) (lv2 := [some (az_r 4), some (az_i (((t : Nat) : Int))), some (az_i (((b : Nat) : Int))), some (az_i (((a : Nat) : Int)))]) (st2 := [az_i (4), az_i (((b : Nat) : Int)), az_r 1, az_i (4), az_r 5]) (s2 := s) rfl ?_
              refine az_clv (v := some (az_i (zat S b))) (t := s) (m2 := am_m_X8_ofBridge) (as := [az_r 1, az_i (((b : Nat) : Int)), az_i (4)]) (rest := [az_i (4), az_r 5]) 116 rfl rfl ⟨rfl, rfl⟩ (by omega) (zs_X8_ofBridge (s := s) (b := b) (k := 4) (by omega) hR (by omega) (by omega) (by omega)) ?_
              refine az_to 0 (pc2 := 116) (lv2 := [some (az_r 4), some (az_i (((t : Nat) : Int))), some (az_i (((b : Nat) : Int))), some (az_i (((a : Nat) : Int)))]) (st2 := [az_i (zat S b), az_i (4), az_r 5]) (s2 := s) rfl ?_
              refine az_clv (v := some (az_r 5)) (t := am_up (am_up (am_up s 5 0 (3)) 5 2 (4)) 5 3 ((zat S b))) (m2 := am_m_X6_refused) (as := [az_r 5, az_i (4), az_i (zat S b)]) (rest := []) 119 rfl rfl ⟨rfl, rfl⟩ (by omega) (zs_X6_refused (s := s) (r := 4) (w := (zat S b)) (by omega) ) ?_
              refine az_to 0 (pc2 := 119) (lv2 := [some (az_r 4), some (az_i (((t : Nat) : Int))), some (az_i (((b : Nat) : Int))), some (az_i (((a : Nat) : Int)))]) (st2 := [az_r 5]) (s2 := am_up (am_up (am_up s 5 0 (3)) 5 2 (4)) 5 3 ((zat S b))) rfl ?_
              refine az_retA rfl rfl ?_
              have e : zo_post S ((t : Nat) : Int) ((b : Nat) : Int) = (3, 4, (zat S b), S) := by
                simp only [zo_post, Int.toNat_natCast, ha]
                first | (rw [if_pos (by omega)]) | (rw [if_neg (by omega), if_pos (by omega)]) | (rw [if_neg (by omega), if_neg (by omega), if_pos (by omega)]) | (rw [if_neg (by omega), if_neg (by omega), if_neg (by omega), if_pos (by omega)]) | (rw [if_neg (by omega), if_neg (by omega), if_neg (by omega), if_neg (by omega), if_pos (by omega)]) | (rw [if_neg (by omega), if_neg (by omega), if_neg (by omega), if_neg (by omega)]) | (rw [if_neg (by omega), if_neg (by omega), if_neg (by omega)]) | (rw [if_neg (by omega), if_neg (by omega)]) | (rw [if_neg (by omega)])
              rw [e]
              exact ⟨rfl, ⟨hR, rfl, fun h => absurd (show (3 : Nat) = 0 from h) (by decide), fun _ => ⟨rfl, rfl⟩, (fun i h3 h5 => by funext j; simp only [am_up, if_neg h3, if_neg h5])⟩⟩
          · have h7 : 0 ≤ zB S a 5 := h7
            refine az_to 7 (pc2 := 84) (lv2 := [some (az_r 4), some (az_i (((t : Nat) : Int))), some (az_i (((b : Nat) : Int))), some (az_i (((a : Nat) : Int)))]) (st2 := [az_i (6), az_i (((a : Nat) : Int)), az_r 1, az_i (10), az_r 5]) (s2 := s) rfl ?_
            refine az_clv (v := some (az_i (zB S a 5))) (t := s) (m2 := am_m_X8_ofBridge) (as := [az_r 1, az_i (((a : Nat) : Int)), az_i (6)]) (rest := [az_i (10), az_r 5]) 87 rfl rfl ⟨rfl, rfl⟩ (by omega) (zs_X8_ofBridge (s := s) (b := a) (k := 6) (by omega) hR (by omega) (by omega) (by omega)) ?_
            refine az_to 0 (pc2 := 87) (lv2 := [some (az_r 4), some (az_i (((t : Nat) : Int))), some (az_i (((b : Nat) : Int))), some (az_i (((a : Nat) : Int)))]) (st2 := [az_i (zB S a 5), az_i (10), az_r 5]) (s2 := s) rfl ?_
            refine az_clv (v := some (az_r 5)) (t := am_up (am_up (am_up s 5 0 (3)) 5 2 (10)) 5 3 ((zB S a 5))) (m2 := am_m_X6_refused) (as := [az_r 5, az_i (10), az_i (zB S a 5)]) (rest := []) 90 rfl rfl ⟨rfl, rfl⟩ (by omega) (zs_X6_refused (s := s) (r := 10) (w := (zB S a 5)) (by omega) ) ?_
            refine az_to 0 (pc2 := 90) (lv2 := [some (az_r 4), some (az_i (((t : Nat) : Int))), some (az_i (((b : Nat) : Int))), some (az_i (((a : Nat) : Int)))]) (st2 := [az_r 5]) (s2 := am_up (am_up (am_up s 5 0 (3)) 5 2 (10)) 5 3 ((zB S a 5))) rfl ?_
            refine az_retA rfl rfl ?_
            have e : zo_post S ((t : Nat) : Int) ((b : Nat) : Int) = (3, 10, (zB S a 5), S) := by
              simp only [zo_post, Int.toNat_natCast, ha]
              first | (rw [if_pos (by omega)]) | (rw [if_neg (by omega), if_pos (by omega)]) | (rw [if_neg (by omega), if_neg (by omega), if_pos (by omega)]) | (rw [if_neg (by omega), if_neg (by omega), if_neg (by omega), if_pos (by omega)]) | (rw [if_neg (by omega), if_neg (by omega), if_neg (by omega), if_neg (by omega), if_pos (by omega)]) | (rw [if_neg (by omega), if_neg (by omega), if_neg (by omega), if_neg (by omega)]) | (rw [if_neg (by omega), if_neg (by omega), if_neg (by omega)]) | (rw [if_neg (by omega), if_neg (by omega)]) | (rw [if_neg (by omega)])
            rw [e]
            exact ⟨rfl, ⟨hR, rfl, fun h => absurd (show (3 : Nat) = 0 from h) (by decide), fun _ => ⟨rfl, rfl⟩, (fun i h3 h5 => by funext j; simp only [am_up, if_neg h3, if_neg h5])⟩⟩
      · have h3 : zT S t 0 = ((b : Nat) : Int) := Decidable.not_not.mp h3
        refine az_to 4 (pc2 := 51) (lv2 := [some (az_r 4), some (az_i (((t : Nat) : Int))), some (az_i (((b : Nat) : Int))), some (az_i (zT S t 0))]) (st2 := [az_i (((b : Nat) : Int)), az_i (3), az_r 5]) (s2 := s) rfl ?_
        refine az_clv (v := some (az_r 5)) (t := am_up (am_up (am_up s 5 0 (3)) 5 2 (3)) 5 3 ((((b : Nat) : Int)))) (m2 := am_m_X6_refused) (as := [az_r 5, az_i (3), az_i (((b : Nat) : Int))]) (rest := []) 54 rfl rfl ⟨rfl, rfl⟩ (by omega) (zs_X6_refused (s := s) (r := 3) (w := (((b : Nat) : Int))) (by omega) ) ?_
        refine az_to 0 (pc2 := 54) (lv2 := [some (az_r 4), some (az_i (((t : Nat) : Int))), some (az_i (((b : Nat) : Int))), some (az_i (zT S t 0))]) (st2 := [az_r 5]) (s2 := am_up (am_up (am_up s 5 0 (3)) 5 2 (3)) 5 3 ((((b : Nat) : Int)))) rfl ?_
        refine az_retA rfl rfl ?_
        have e : zo_post S ((t : Nat) : Int) ((b : Nat) : Int) = (3, 3, (((b : Nat) : Int)), S) := by
          simp only [zo_post, Int.toNat_natCast]
          first | (rw [if_pos (by omega)]) | (rw [if_neg (by omega), if_pos (by omega)]) | (rw [if_neg (by omega), if_neg (by omega), if_pos (by omega)]) | (rw [if_neg (by omega), if_neg (by omega), if_neg (by omega), if_pos (by omega)]) | (rw [if_neg (by omega), if_neg (by omega), if_neg (by omega), if_neg (by omega), if_pos (by omega)]) | (rw [if_neg (by omega), if_neg (by omega), if_neg (by omega), if_neg (by omega)]) | (rw [if_neg (by omega), if_neg (by omega), if_neg (by omega)]) | (rw [if_neg (by omega), if_neg (by omega)]) | (rw [if_neg (by omega)])
        rw [e]
        exact ⟨rfl, ⟨hR, rfl, fun h => absurd (show (3 : Nat) = 0 from h) (by decide), fun _ => ⟨rfl, rfl⟩, (fun i h3 h5 => by funext j; simp only [am_up, if_neg h3, if_neg h5])⟩⟩
    · have h2 : ¬ (0 ≤ zb ∧ zb < ((zn S 0 : Nat) : Int)) := h2
      refine az_to 2 (pc2 := 26) (lv2 := [some (az_r 4), some (az_i (((t : Nat) : Int))), some (az_i (zb)), none]) (st2 := [az_r 5]) (s2 := s) rfl ?_
      refine az_clv (v := some (az_r 5)) (t := am_up s 5 0 (1)) (m2 := am_m_X6_noSuch) (as := [az_r 5]) (rest := []) 29 rfl rfl ⟨rfl, rfl⟩ (by omega) (zs_X6_noSuch (s := s)  (by omega) ) ?_
      refine az_to 0 (pc2 := 29) (lv2 := [some (az_r 4), some (az_i (((t : Nat) : Int))), some (az_i (zb)), none]) (st2 := [az_r 5]) (s2 := am_up s 5 0 (1)) rfl ?_
      refine az_retA rfl rfl ?_
      have e : zo_post S ((t : Nat) : Int) zb = (1, 0, 0, S) := by
        simp only [zo_post, Int.toNat_natCast]
        first | (rw [if_pos (by omega)]) | (rw [if_neg (by omega), if_pos (by omega)]) | (rw [if_neg (by omega), if_neg (by omega), if_pos (by omega)]) | (rw [if_neg (by omega), if_neg (by omega), if_neg (by omega), if_pos (by omega)]) | (rw [if_neg (by omega), if_neg (by omega), if_neg (by omega), if_neg (by omega), if_pos (by omega)]) | (rw [if_neg (by omega), if_neg (by omega), if_neg (by omega), if_neg (by omega)]) | (rw [if_neg (by omega), if_neg (by omega), if_neg (by omega)]) | (rw [if_neg (by omega), if_neg (by omega)]) | (rw [if_neg (by omega)])
      rw [e]
      exact ⟨rfl, ⟨hR, rfl, fun h => absurd (show (1 : Nat) = 0 from h) (by decide), fun h => absurd (show (1 : Nat) = 3 from h) (by decide), (fun i h3 h5 => by funext j; simp only [am_up, if_neg h3, if_neg h5])⟩⟩
set_option maxRecDepth 100000 in
set_option maxHeartbeats 800000 in
theorem zs_X0_leaveBridge {d : Nat} {s : az_S} (hd : 3 ≤ d) {S : zR} {h : Nat} (hR : zRel (s 3) S) (hI : zInv S h) (hh : h ≤ 10000) {zt : Int} (h_zt : az_in zt) : az_R d am_m_X0_leaveBridge 0 (az_ini (am_mL am_m_X0_leaveBridge) [az_r 4, az_i (zt)]) [] (s) (zCq s (zo_leave S zt)) := by
  have hz := zI_h hI hh
  refine az_to 0 (pc2 := 0) (lv2 := [some (az_r 4), some (az_i (zt)), none]) (st2 := []) (s2 := s) rfl ?_
  refine az_to 3 (pc2 := 5) (lv2 := [some (az_r 4), some (az_i (zt)), none]) (st2 := [az_i (zt), az_r 1]) (s2 := s) rfl ?_
  refine az_clv (v := some (az_i (az_b (0 ≤ zt ∧ zt < ((zn S 1 : Nat) : Int))))) (t := s) (m2 := am_m_X8_isTroll) (as := [az_r 1, az_i (zt)]) (rest := []) 8 rfl rfl ⟨rfl, rfl⟩ (by omega) (zs_X8_isTroll (s := s) (z := zt) (by omega) hR hI hh (by first | assumption | exact ⟨by omega, by omega⟩)) ?_
  refine az_to 0 (pc2 := 8) (lv2 := [some (az_r 4), some (az_i (zt)), none]) (st2 := [az_i (az_b (0 ≤ zt ∧ zt < ((zn S 1 : Nat) : Int)))]) (s2 := s) rfl ?_
  refine az_ifbn 19 11 rfl (by decide) (fun h1 => ?_) (fun h1 => ?_)
  · have h1 : 0 ≤ zt ∧ zt < ((zn S 1 : Nat) : Int) := h1
    obtain ⟨t, rfl⟩ : ∃ n0 : Nat, zt = n0 := ⟨zt.toNat, by omega⟩
    have hzt := zI_t hI hh (t := t) (by omega)
    have hzu := hI.2.2.2.2.2.1 t (by omega)
    refine az_to 0 (pc2 := 19) (lv2 := [some (az_r 4), some (az_i (((t : Nat) : Int))), none]) (st2 := []) (s2 := s) (rfl) ?_
    refine az_to 4 (pc2 := 25) (lv2 := [some (az_r 4), some (az_i (((t : Nat) : Int))), none]) (st2 := [az_i (0), az_i (((t : Nat) : Int)), az_r 1]) (s2 := s) rfl ?_
    refine az_clv (v := some (az_i (zT S t 0))) (t := s) (m2 := am_m_X8_ofTroll) (as := [az_r 1, az_i (((t : Nat) : Int)), az_i (0)]) (rest := []) 28 rfl rfl ⟨rfl, rfl⟩ (by omega) (zs_X8_ofTroll (s := s) (t := t) (k := 0) (by omega) hR (by omega) (by omega)) ?_
    refine az_to 0 (pc2 := 28) (lv2 := [some (az_r 4), some (az_i (((t : Nat) : Int))), none]) (st2 := [az_i (zT S t 0)]) (s2 := s) rfl ?_
    refine az_to 3 (pc2 := 31) (lv2 := [some (az_r 4), some (az_i (((t : Nat) : Int))), some (az_i (zT S t 0))]) (st2 := [az_i (-1), az_i (zT S t 0)]) (s2 := s) rfl ?_
    refine az_if2 45 34 rfl (by decide) (by first | assumption | exact ⟨by omega, by omega⟩) ⟨by decide, by decide⟩ (fun h2 => ?_) (fun h2 => ?_)
    · have h2 : ¬ zT S t 0 = -1 := h2
      obtain ⟨a, ha⟩ : ∃ n0 : Nat, zT S t 0 = n0 := ⟨(zT S t 0).toNat, by omega⟩
      have hza := zI_b hI hh (b := a) (by omega)
      refine az_to 0 (pc2 := 45) (lv2 := [some (az_r 4), some (az_i (((t : Nat) : Int))), some (az_i (((a : Nat) : Int)))]) (st2 := []) (s2 := s) (by rw [ha]; rfl) ?_
      refine az_to 3 (pc2 := 50) (lv2 := [some (az_r 4), some (az_i (((t : Nat) : Int))), some (az_i (((a : Nat) : Int)))]) (st2 := [az_i (((a : Nat) : Int)), az_r 1]) (s2 := s) rfl ?_
      refine az_clv (v := some (az_i (az_b (0 ≤ zB S a 5)))) (t := s) (m2 := am_m_X8_isDisputed) (as := [az_r 1, az_i (((a : Nat) : Int))]) (rest := []) 53 rfl rfl ⟨rfl, rfl⟩ (by omega) (zs_X8_isDisputed (s := s) (b := a) (by omega) hR hI hh (by omega)) ?_
      refine az_to 0 (pc2 := 53) (lv2 := [some (az_r 4), some (az_i (((t : Nat) : Int))), some (az_i (((a : Nat) : Int)))]) (st2 := [az_i (az_b (0 ≤ zB S a 5))]) (s2 := s) rfl ?_
      refine az_ifbe 76 56 rfl (by decide) (fun h3 => ?_) (fun h3 => ?_)
      · have h3 : ¬ (0 ≤ zB S a 5) := h3
        refine az_to 5 (pc2 := 83) (lv2 := [some (az_r 4), some (az_i (((t : Nat) : Int))), some (az_i (((a : Nat) : Int)))]) (st2 := [az_i (-1), az_i (0), az_i (((t : Nat) : Int)), az_r 1]) (s2 := s) rfl ?_
        refine az_clv (v := none) (t := am_up s 3 (135 + 4 * t + 0) (-1)) (m2 := am_m_X8_setTroll) (as := [az_r 1, az_i (((t : Nat) : Int)), az_i (0), az_i (-1)]) (rest := []) 86 rfl rfl ⟨rfl, rfl⟩ (by omega) (zs_X8_setTroll (s := s) (t := t) (k := 0) (v := (-1)) (by omega) (by omega) (by omega)) ?_
        refine az_to 0 (pc2 := 86) (lv2 := [some (az_r 4), some (az_i (((t : Nat) : Int))), some (az_i (((a : Nat) : Int)))]) (st2 := []) (s2 := am_up s 3 (135 + 4 * t + 0) (-1)) rfl ?_
        refine az_to 5 (pc2 := 93) (lv2 := [some (az_r 4), some (az_i (((t : Nat) : Int))), some (az_i (((a : Nat) : Int)))]) (st2 := [az_i (-1), az_i (4), az_i (((a : Nat) : Int)), az_r 1]) (s2 := am_up s 3 (135 + 4 * t + 0) (-1)) rfl ?_
        refine az_clv (v := none) (t := am_up (am_up s 3 (135 + 4 * t + 0) (-1)) 3 (5 + 13 * a + 4) (-1)) (m2 := am_m_X8_setBridge) (as := [az_r 1, az_i (((a : Nat) : Int)), az_i (4), az_i (-1)]) (rest := []) 96 rfl rfl ⟨rfl, rfl⟩ (by omega) (zs_X8_setBridge (s := am_up s 3 (135 + 4 * t + 0) (-1)) (b := a) (k := 4) (v := (-1)) (by omega) (by omega) (by omega)) ?_
        refine az_to 0 (pc2 := 96) (lv2 := [some (az_r 4), some (az_i (((t : Nat) : Int))), some (az_i (((a : Nat) : Int)))]) (st2 := []) (s2 := am_up (am_up s 3 (135 + 4 * t + 0) (-1)) 3 (5 + 13 * a + 4) (-1)) rfl ?_
        refine az_to 3 (pc2 := 101) (lv2 := [some (az_r 4), some (az_i (((t : Nat) : Int))), some (az_i (((a : Nat) : Int)))]) (st2 := [az_i (((a : Nat) : Int)), az_r 5]) (s2 := am_up (am_up s 3 (135 + 4 * t + 0) (-1)) 3 (5 + 13 * a + 4) (-1)) rfl ?_
        refine az_clv (v := some (az_r 5)) (t := am_up (am_up (am_up (am_up s 3 (135 + 4 * t + 0) (-1)) 3 (5 + 13 * a + 4) (-1)) 5 0 (0)) 5 1 ((((a : Nat) : Int)))) (m2 := am_m_X6_done) (as := [az_r 5, az_i (((a : Nat) : Int))]) (rest := []) 104 rfl rfl ⟨rfl, rfl⟩ (by omega) (zs_X6_done (s := am_up (am_up s 3 (135 + 4 * t + 0) (-1)) 3 (5 + 13 * a + 4) (-1)) (v := (((a : Nat) : Int))) (by omega) ) ?_
        refine az_to 0 (pc2 := 104) (lv2 := [some (az_r 4), some (az_i (((t : Nat) : Int))), some (az_i (((a : Nat) : Int)))]) (st2 := [az_r 5]) (s2 := am_up (am_up (am_up (am_up s 3 (135 + 4 * t + 0) (-1)) 3 (5 + 13 * a + 4) (-1)) 5 0 (0)) 5 1 ((((a : Nat) : Int)))) rfl ?_
        refine az_retA rfl rfl ?_
        have e : zo_leave S ((t : Nat) : Int) = (0, (((a : Nat) : Int)), 0, zup S (126 + 4 * t + 0) (-1)) := by
          simp only [zo_leave, Int.toNat_natCast, ha]
          rw [if_neg (by omega), if_neg (by omega), if_neg (by omega)]
        rw [e]
        exact ⟨rfl, ⟨(by have q := zRel_leave hR hI (t := t) (by omega) (by omega); rw [ha] at q; exact q), rfl, fun _ => rfl, fun h => absurd (show (0 : Nat) = 3 from h) (by decide), (fun i h3 h5 => by funext j; simp only [am_up, if_neg h3, if_neg h5])⟩⟩
      · have h3 : 0 ≤ zB S a 5 := h3
        refine az_to 7 (pc2 := 69) (lv2 := [some (az_r 4), some (az_i (((t : Nat) : Int))), some (az_i (((a : Nat) : Int)))]) (st2 := [az_i (6), az_i (((a : Nat) : Int)), az_r 1, az_i (10), az_r 5]) (s2 := s) rfl ?_
        refine az_clv (v := some (az_i (zB S a 5))) (t := s) (m2 := am_m_X8_ofBridge) (as := [az_r 1, az_i (((a : Nat) : Int)), az_i (6)]) (rest := [az_i (10), az_r 5]) 72 rfl rfl ⟨rfl, rfl⟩ (by omega) (zs_X8_ofBridge (s := s) (b := a) (k := 6) (by omega) hR (by omega) (by omega) (by omega)) ?_
        refine az_to 0 (pc2 := 72) (lv2 := [some (az_r 4), some (az_i (((t : Nat) : Int))), some (az_i (((a : Nat) : Int)))]) (st2 := [az_i (zB S a 5), az_i (10), az_r 5]) (s2 := s) rfl ?_
        refine az_clv (v := some (az_r 5)) (t := am_up (am_up (am_up s 5 0 (3)) 5 2 (10)) 5 3 ((zB S a 5))) (m2 := am_m_X6_refused) (as := [az_r 5, az_i (10), az_i (zB S a 5)]) (rest := []) 75 rfl rfl ⟨rfl, rfl⟩ (by omega) (zs_X6_refused (s := s) (r := 10) (w := (zB S a 5)) (by omega) ) ?_
        refine az_to 0 (pc2 := 75) (lv2 := [some (az_r 4), some (az_i (((t : Nat) : Int))), some (az_i (((a : Nat) : Int)))]) (st2 := [az_r 5]) (s2 := am_up (am_up (am_up s 5 0 (3)) 5 2 (10)) 5 3 ((zB S a 5))) rfl ?_
        refine az_retA rfl rfl ?_
        have e : zo_leave S ((t : Nat) : Int) = (3, 10, (zB S a 5), S) := by
          simp only [zo_leave, Int.toNat_natCast, ha]
          first | (rw [if_pos (by omega)]) | (rw [if_neg (by omega), if_pos (by omega)]) | (rw [if_neg (by omega), if_neg (by omega), if_pos (by omega)]) | (rw [if_neg (by omega), if_neg (by omega), if_neg (by omega), if_pos (by omega)]) | (rw [if_neg (by omega), if_neg (by omega), if_neg (by omega), if_neg (by omega), if_pos (by omega)]) | (rw [if_neg (by omega), if_neg (by omega), if_neg (by omega), if_neg (by omega)]) | (rw [if_neg (by omega), if_neg (by omega), if_neg (by omega)]) | (rw [if_neg (by omega), if_neg (by omega)]) | (rw [if_neg (by omega)])
        rw [e]
        exact ⟨rfl, ⟨hR, rfl, fun h => absurd (show (3 : Nat) = 0 from h) (by decide), fun _ => ⟨rfl, rfl⟩, (fun i h3 h5 => by funext j; simp only [am_up, if_neg h3, if_neg h5])⟩⟩
    · have h2 : zT S t 0 = -1 := Decidable.not_not.mp h2
      refine az_to 4 (pc2 := 41) (lv2 := [some (az_r 4), some (az_i (((t : Nat) : Int))), some (az_i (zT S t 0))]) (st2 := [az_i (((t : Nat) : Int)), az_i (9), az_r 5]) (s2 := s) rfl ?_
      refine az_clv (v := some (az_r 5)) (t := am_up (am_up (am_up s 5 0 (3)) 5 2 (9)) 5 3 ((((t : Nat) : Int)))) (m2 := am_m_X6_refused) (as := [az_r 5, az_i (9), az_i (((t : Nat) : Int))]) (rest := []) 44 rfl rfl ⟨rfl, rfl⟩ (by omega) (zs_X6_refused (s := s) (r := 9) (w := (((t : Nat) : Int))) (by omega) ) ?_
      refine az_to 0 (pc2 := 44) (lv2 := [some (az_r 4), some (az_i (((t : Nat) : Int))), some (az_i (zT S t 0))]) (st2 := [az_r 5]) (s2 := am_up (am_up (am_up s 5 0 (3)) 5 2 (9)) 5 3 ((((t : Nat) : Int)))) rfl ?_
      refine az_retA rfl rfl ?_
      have e : zo_leave S ((t : Nat) : Int) = (3, 9, (((t : Nat) : Int)), S) := by
        simp only [zo_leave, Int.toNat_natCast]
        first | (rw [if_pos (by omega)]) | (rw [if_neg (by omega), if_pos (by omega)]) | (rw [if_neg (by omega), if_neg (by omega), if_pos (by omega)]) | (rw [if_neg (by omega), if_neg (by omega), if_neg (by omega), if_pos (by omega)]) | (rw [if_neg (by omega), if_neg (by omega), if_neg (by omega), if_neg (by omega), if_pos (by omega)]) | (rw [if_neg (by omega), if_neg (by omega), if_neg (by omega), if_neg (by omega)]) | (rw [if_neg (by omega), if_neg (by omega), if_neg (by omega)]) | (rw [if_neg (by omega), if_neg (by omega)]) | (rw [if_neg (by omega)])
      rw [e]
      exact ⟨rfl, ⟨hR, rfl, fun h => absurd (show (3 : Nat) = 0 from h) (by decide), fun _ => ⟨rfl, rfl⟩, (fun i h3 h5 => by funext j; simp only [am_up, if_neg h3, if_neg h5])⟩⟩
  · have h1 : ¬ (0 ≤ zt ∧ zt < ((zn S 1 : Nat) : Int)) := h1
    refine az_to 2 (pc2 := 15) (lv2 := [some (az_r 4), some (az_i (zt)), none]) (st2 := [az_r 5]) (s2 := s) rfl ?_
    refine az_clv (v := some (az_r 5)) (t := am_up s 5 0 (1)) (m2 := am_m_X6_noSuch) (as := [az_r 5]) (rest := []) 18 rfl rfl ⟨rfl, rfl⟩ (by omega) (zs_X6_noSuch (s := s)  (by omega) ) ?_
    refine az_to 0 (pc2 := 18) (lv2 := [some (az_r 4), some (az_i (zt)), none]) (st2 := [az_r 5]) (s2 := am_up s 5 0 (1)) rfl ?_
    refine az_retA rfl rfl ?_
    have e : zo_leave S zt = (1, 0, 0, S) := by
      simp only [zo_leave, Int.toNat_natCast]
      first | (rw [if_pos (by omega)]) | (rw [if_neg (by omega), if_pos (by omega)]) | (rw [if_neg (by omega), if_neg (by omega), if_pos (by omega)]) | (rw [if_neg (by omega), if_neg (by omega), if_neg (by omega), if_pos (by omega)]) | (rw [if_neg (by omega), if_neg (by omega), if_neg (by omega), if_neg (by omega), if_pos (by omega)]) | (rw [if_neg (by omega), if_neg (by omega), if_neg (by omega), if_neg (by omega)]) | (rw [if_neg (by omega), if_neg (by omega), if_neg (by omega)]) | (rw [if_neg (by omega), if_neg (by omega)]) | (rw [if_neg (by omega)])
    rw [e]
    exact ⟨rfl, ⟨hR, rfl, fun h => absurd (show (1 : Nat) = 0 from h) (by decide), fun h => absurd (show (1 : Nat) = 3 from h) (by decide), (fun i h3 h5 => by funext j; simp only [am_up, if_neg h3, if_neg h5])⟩⟩
set_option maxRecDepth 100000 in
set_option maxHeartbeats 800000 in
theorem zs_X0_giveRiddle {d : Nat} {s : az_S} (hd : 3 ≤ d) {S : zR} {h : Nat} (hR : zRel (s 3) S) (hI : zInv S h) (hh : h ≤ 10000) {zt : Int} {zd : Int} {zn0 : Int} (h_zt : az_in zt) (h_zd : az_in zd) (h_zn0 : az_in zn0) : az_R d am_m_X0_giveRiddle 0 (az_ini (am_mL am_m_X0_giveRiddle) [az_r 4, az_i (zt), az_i (zd), az_i (zn0)]) [] (s) (zCq s (zo_riddle S zt zd zn0)) := by
  have hz := zI_h hI hh
  refine az_to 0 (pc2 := 0) (lv2 := [some (az_r 4), some (az_i (zt)), some (az_i (zd)), some (az_i (zn0)), none, none]) (st2 := []) (s2 := s) rfl ?_
  refine az_to 3 (pc2 := 5) (lv2 := [some (az_r 4), some (az_i (zt)), some (az_i (zd)), some (az_i (zn0)), none, none]) (st2 := [az_i (zt), az_r 1]) (s2 := s) rfl ?_
  refine az_clv (v := some (az_i (az_b (0 ≤ zt ∧ zt < ((zn S 1 : Nat) : Int))))) (t := s) (m2 := am_m_X8_isTroll) (as := [az_r 1, az_i (zt)]) (rest := []) 8 rfl rfl ⟨rfl, rfl⟩ (by omega) (zs_X8_isTroll (s := s) (z := zt) (by omega) hR hI hh (by first | assumption | exact ⟨by omega, by omega⟩)) ?_
  refine az_to 0 (pc2 := 8) (lv2 := [some (az_r 4), some (az_i (zt)), some (az_i (zd)), some (az_i (zn0)), none, none]) (st2 := [az_i (az_b (0 ≤ zt ∧ zt < ((zn S 1 : Nat) : Int)))]) (s2 := s) rfl ?_
  refine az_ifbn 19 11 rfl (by decide) (fun h1 => ?_) (fun h1 => ?_)
  · have h1 : 0 ≤ zt ∧ zt < ((zn S 1 : Nat) : Int) := h1
    obtain ⟨t, rfl⟩ : ∃ n0 : Nat, zt = n0 := ⟨zt.toNat, by omega⟩
    have hzt := zI_t hI hh (t := t) (by omega)
    have hzd := zrh_d (S := S) (t := t)
    refine az_to 0 (pc2 := 19) (lv2 := [some (az_r 4), some (az_i (((t : Nat) : Int))), some (az_i (zd)), some (az_i (zn0)), none, none]) (st2 := []) (s2 := s) (rfl) ?_
    refine az_to 3 (pc2 := 23) (lv2 := [some (az_r 4), some (az_i (((t : Nat) : Int))), some (az_i (zd)), some (az_i (zn0)), none, none]) (st2 := [az_i (9), az_i (1), az_i (zd)]) (s2 := s) rfl ?_
    refine az_clv (v := some (az_i (az_b (1 ≤ zd ∧ zd ≤ 9)))) (t := s) (m2 := am_m_X9_isWithin) (as := [az_i (zd), az_i (1), az_i (9)]) (rest := []) 26 rfl rfl ⟨rfl, rfl⟩ (by omega) (zs_X9_isWithin (s := s) (z := zd) (lo := 1) (hi := 9) (by omega) (by first | assumption | exact ⟨by omega, by omega⟩) ⟨by decide, by decide⟩ ⟨by decide, by decide⟩) ?_
    refine az_to 0 (pc2 := 26) (lv2 := [some (az_r 4), some (az_i (((t : Nat) : Int))), some (az_i (zd)), some (az_i (zn0)), none, none]) (st2 := [az_i (az_b (1 ≤ zd ∧ zd ≤ 9))]) (s2 := s) rfl ?_
    refine az_ifbe 39 29 rfl (by decide) (fun h2 => ?_) (fun h2 => ?_)
    · have h2 : ¬ (1 ≤ zd ∧ zd ≤ 9) := h2
      refine az_to 2 (pc2 := 43) (lv2 := [some (az_r 4), some (az_i (((t : Nat) : Int))), some (az_i (zd)), some (az_i (zn0)), none, none]) (st2 := [az_r 5]) (s2 := s) rfl ?_
      refine az_clv (v := some (az_r 5)) (t := am_up s 5 0 (2)) (m2 := am_m_X6_outOfRange) (as := [az_r 5]) (rest := []) 46 rfl rfl ⟨rfl, rfl⟩ (by omega) (zs_X6_outOfRange (s := s)  (by omega) ) ?_
      refine az_to 0 (pc2 := 46) (lv2 := [some (az_r 4), some (az_i (((t : Nat) : Int))), some (az_i (zd)), some (az_i (zn0)), none, none]) (st2 := [az_r 5]) (s2 := am_up s 5 0 (2)) rfl ?_
      refine az_retA rfl rfl ?_
      have e : zo_riddle S ((t : Nat) : Int) zd zn0 = (2, 0, 0, S) := by
        simp only [zo_riddle, Int.toNat_natCast]
        first | (rw [if_pos (by omega)]) | (rw [if_neg (by omega), if_pos (by omega)]) | (rw [if_neg (by omega), if_neg (by omega), if_pos (by omega)]) | (rw [if_neg (by omega), if_neg (by omega), if_neg (by omega), if_pos (by omega)]) | (rw [if_neg (by omega), if_neg (by omega), if_neg (by omega), if_neg (by omega), if_pos (by omega)]) | (rw [if_neg (by omega), if_neg (by omega), if_neg (by omega), if_neg (by omega)]) | (rw [if_neg (by omega), if_neg (by omega), if_neg (by omega)]) | (rw [if_neg (by omega), if_neg (by omega)]) | (rw [if_neg (by omega)])
        try rw [hzd.1 (by omega)]
      rw [e]
      exact ⟨rfl, ⟨hR, rfl, fun h => absurd (show (2 : Nat) = 0 from h) (by decide), fun h => absurd (show (2 : Nat) = 3 from h) (by decide), (fun i h3 h5 => by funext j; simp only [am_up, if_neg h3, if_neg h5])⟩⟩
    · have h2 : 1 ≤ zd ∧ zd ≤ 9 := h2
      refine az_to 3 (pc2 := 33) (lv2 := [some (az_r 4), some (az_i (((t : Nat) : Int))), some (az_i (zd)), some (az_i (zn0)), none, none]) (st2 := [az_i (48), az_i (1), az_i (zn0)]) (s2 := s) rfl ?_
      refine az_clv (v := some (az_i (az_b (1 ≤ zn0 ∧ zn0 ≤ 48)))) (t := s) (m2 := am_m_X9_isWithin) (as := [az_i (zn0), az_i (1), az_i (48)]) (rest := []) 36 rfl rfl ⟨rfl, rfl⟩ (by omega) (zs_X9_isWithin (s := s) (z := zn0) (lo := 1) (hi := 48) (by omega) (by first | assumption | exact ⟨by omega, by omega⟩) ⟨by decide, by decide⟩ ⟨by decide, by decide⟩) ?_
      refine az_to 0 (pc2 := 36) (lv2 := [some (az_r 4), some (az_i (((t : Nat) : Int))), some (az_i (zd)), some (az_i (zn0)), none, none]) (st2 := [az_i (az_b (1 ≤ zn0 ∧ zn0 ≤ 48))]) (s2 := s) rfl ?_
      refine az_ifbn 47 39 rfl (by decide) (fun h3 => ?_) (fun h3 => ?_)
      · have h3 : 1 ≤ zn0 ∧ zn0 ≤ 48 := h3
        refine az_to 3 (pc2 := 52) (lv2 := [some (az_r 4), some (az_i (((t : Nat) : Int))), some (az_i (zd)), some (az_i (zn0)), none, none]) (st2 := [az_i (((t : Nat) : Int)), az_r 1]) (s2 := s) rfl ?_
        refine az_clv (v := some (az_i (zrh S t))) (t := s) (m2 := am_m_X8_riddleHours) (as := [az_r 1, az_i (((t : Nat) : Int))]) (rest := []) 55 rfl rfl ⟨rfl, rfl⟩ (by omega) (zs_X8_riddleHours (s := s) (t := t) (by omega) hR hI hh (by omega)) ?_
        refine az_to 0 (pc2 := 55) (lv2 := [some (az_r 4), some (az_i (((t : Nat) : Int))), some (az_i (zd)), some (az_i (zn0)), none, none]) (st2 := [az_i (zrh S t)]) (s2 := s) rfl ?_
        refine az_to 2 (pc2 := 59) (lv2 := [some (az_r 4), some (az_i (((t : Nat) : Int))), some (az_i (zd)), some (az_i (zn0)), some (az_i (zrh S t)), none]) (st2 := [az_i (zrh S t)]) (s2 := s) rfl ?_
        refine az_ifc 73 62 rfl (by decide) (by first | assumption | exact ⟨by omega, by omega⟩) (fun h4 => ?_) (fun h4 => ?_)
        · have h4 : zrh S t ≤ 0 := h4
          refine az_to 3 (pc2 := 78) (lv2 := [some (az_r 4), some (az_i (((t : Nat) : Int))), some (az_i (zd)), some (az_i (zn0)), some (az_i (zrh S t)), none]) (st2 := [az_i (0), az_r 1]) (s2 := s) rfl ?_
          refine az_clv (v := some (az_i (S 3))) (t := s) (m2 := am_m_X8_of) (as := [az_r 1, az_i (0)]) (rest := []) 81 rfl rfl ⟨rfl, rfl⟩ (by omega) (zs_X8_of_0 (s := s)  (by omega) hR hI hh) ?_
          refine az_to 0 (pc2 := 81) (lv2 := [some (az_r 4), some (az_i (((t : Nat) : Int))), some (az_i (zd)), some (az_i (zn0)), some (az_i (zrh S t)), none]) (st2 := [az_i (S 3)]) (s2 := s) rfl ?_
          refine az_to 8 (pc2 := 92) (lv2 := [some (az_r 4), some (az_i (((t : Nat) : Int))), some (az_i (zd)), some (az_i (zn0)), some (az_i (zrh S t)), some (az_i ((S 3 + zn0)))]) (st2 := [az_i (zd), az_i (2), az_i (((t : Nat) : Int)), az_r 1]) (s2 := s) rfl ?_
          refine az_clv (v := none) (t := am_up s 3 (135 + 4 * t + 2) zd) (m2 := am_m_X8_setTroll) (as := [az_r 1, az_i (((t : Nat) : Int)), az_i (2), az_i (zd)]) (rest := []) 95 rfl rfl ⟨rfl, rfl⟩ (by omega) (zs_X8_setTroll (s := s) (t := t) (k := 2) (v := zd) (by omega) (by omega) (by omega)) ?_
          refine az_to 0 (pc2 := 95) (lv2 := [some (az_r 4), some (az_i (((t : Nat) : Int))), some (az_i (zd)), some (az_i (zn0)), some (az_i (zrh S t)), some (az_i ((S 3 + zn0)))]) (st2 := []) (s2 := am_up s 3 (135 + 4 * t + 2) zd) rfl ?_
          refine az_to 5 (pc2 := 103) (lv2 := [some (az_r 4), some (az_i (((t : Nat) : Int))), some (az_i (zd)), some (az_i (zn0)), some (az_i (zrh S t)), some (az_i ((S 3 + zn0)))]) (st2 := [az_i ((S 3 + zn0)), az_i (3), az_i (((t : Nat) : Int)), az_r 1]) (s2 := am_up s 3 (135 + 4 * t + 2) zd) rfl ?_
          refine az_clv (v := none) (t := am_up (am_up s 3 (135 + 4 * t + 2) zd) 3 (135 + 4 * t + 3) ((S 3 + zn0))) (m2 := am_m_X8_setTroll) (as := [az_r 1, az_i (((t : Nat) : Int)), az_i (3), az_i ((S 3 + zn0))]) (rest := []) 106 rfl rfl ⟨rfl, rfl⟩ (by omega) (zs_X8_setTroll (s := am_up s 3 (135 + 4 * t + 2) zd) (t := t) (k := 3) (v := ((S 3 + zn0))) (by omega) (by omega) (by omega)) ?_
          refine az_to 0 (pc2 := 106) (lv2 := [some (az_r 4), some (az_i (((t : Nat) : Int))), some (az_i (zd)), some (az_i (zn0)), some (az_i (zrh S t)), some (az_i ((S 3 + zn0)))]) (st2 := []) (s2 := am_up (am_up s 3 (135 + 4 * t + 2) zd) 3 (135 + 4 * t + 3) ((S 3 + zn0))) rfl ?_
          refine az_to 3 (pc2 := 112) (lv2 := [some (az_r 4), some (az_i (((t : Nat) : Int))), some (az_i (zd)), some (az_i (zn0)), some (az_i (zrh S t)), some (az_i ((S 3 + zn0)))]) (st2 := [az_i ((S 3 + zn0)), az_r 5]) (s2 := am_up (am_up s 3 (135 + 4 * t + 2) zd) 3 (135 + 4 * t + 3) ((S 3 + zn0))) rfl ?_
          refine az_clv (v := some (az_r 5)) (t := am_up (am_up (am_up (am_up s 3 (135 + 4 * t + 2) zd) 3 (135 + 4 * t + 3) ((S 3 + zn0))) 5 0 (0)) 5 1 (((S 3 + zn0)))) (m2 := am_m_X6_done) (as := [az_r 5, az_i ((S 3 + zn0))]) (rest := []) 115 rfl rfl ⟨rfl, rfl⟩ (by omega) (zs_X6_done (s := am_up (am_up s 3 (135 + 4 * t + 2) zd) 3 (135 + 4 * t + 3) ((S 3 + zn0))) (v := ((S 3 + zn0))) (by omega) ) ?_
          refine az_to 0 (pc2 := 115) (lv2 := [some (az_r 4), some (az_i (((t : Nat) : Int))), some (az_i (zd)), some (az_i (zn0)), some (az_i (zrh S t)), some (az_i ((S 3 + zn0)))]) (st2 := [az_r 5]) (s2 := am_up (am_up (am_up (am_up s 3 (135 + 4 * t + 2) zd) 3 (135 + 4 * t + 3) ((S 3 + zn0))) 5 0 (0)) 5 1 (((S 3 + zn0)))) rfl ?_
          refine az_retA rfl rfl ?_
          have e : zo_riddle S ((t : Nat) : Int) zd zn0 = (0, ((S 3 + zn0)), 0, zup (zup S (126 + 4 * t + 2) zd) (126 + 4 * t + 3) (S 3 + zn0)) := by
            simp only [zo_riddle, Int.toNat_natCast]
            rw [if_neg (by omega), if_neg (by omega), if_neg (by omega)]
            try rw [hzd.1 (by omega)]
          rw [e]
          exact ⟨rfl, ⟨zRel_T (zRel_T hR ⟨hz.1.1, hz.1.2.1⟩ (by omega) ⟨by omega, by omega⟩ zd) (by unfold zn; rw [zup_ne _ _ (by omega), zup_ne _ _ (by omega)]; exact ⟨hz.1.1, hz.1.2.1⟩) (by omega) ⟨by omega, by omega⟩ (S 3 + zn0), rfl, fun _ => rfl, fun h => absurd (show (0 : Nat) = 3 from h) (by decide), (fun i h3 h5 => by funext j; simp only [am_up, if_neg h3, if_neg h5])⟩⟩
        · have h4 : ¬ (zrh S t ≤ 0) := h4
          refine az_to 4 (pc2 := 69) (lv2 := [some (az_r 4), some (az_i (((t : Nat) : Int))), some (az_i (zd)), some (az_i (zn0)), some (az_i (zrh S t)), none]) (st2 := [az_i (zrh S t), az_i (5), az_r 5]) (s2 := s) rfl ?_
          refine az_clv (v := some (az_r 5)) (t := am_up (am_up (am_up s 5 0 (3)) 5 2 (5)) 5 3 ((zrh S t))) (m2 := am_m_X6_refused) (as := [az_r 5, az_i (5), az_i (zrh S t)]) (rest := []) 72 rfl rfl ⟨rfl, rfl⟩ (by omega) (zs_X6_refused (s := s) (r := 5) (w := (zrh S t)) (by omega) ) ?_
          refine az_to 0 (pc2 := 72) (lv2 := [some (az_r 4), some (az_i (((t : Nat) : Int))), some (az_i (zd)), some (az_i (zn0)), some (az_i (zrh S t)), none]) (st2 := [az_r 5]) (s2 := am_up (am_up (am_up s 5 0 (3)) 5 2 (5)) 5 3 ((zrh S t))) rfl ?_
          refine az_retA rfl rfl ?_
          have e : zo_riddle S ((t : Nat) : Int) zd zn0 = (3, 5, (zrh S t), S) := by
            simp only [zo_riddle, Int.toNat_natCast]
            first | (rw [if_pos (by omega)]) | (rw [if_neg (by omega), if_pos (by omega)]) | (rw [if_neg (by omega), if_neg (by omega), if_pos (by omega)]) | (rw [if_neg (by omega), if_neg (by omega), if_neg (by omega), if_pos (by omega)]) | (rw [if_neg (by omega), if_neg (by omega), if_neg (by omega), if_neg (by omega), if_pos (by omega)]) | (rw [if_neg (by omega), if_neg (by omega), if_neg (by omega), if_neg (by omega)]) | (rw [if_neg (by omega), if_neg (by omega), if_neg (by omega)]) | (rw [if_neg (by omega), if_neg (by omega)]) | (rw [if_neg (by omega)])
            try rw [hzd.1 (by omega)]
          rw [e]
          exact ⟨rfl, ⟨hR, rfl, fun h => absurd (show (3 : Nat) = 0 from h) (by decide), fun _ => ⟨rfl, rfl⟩, (fun i h3 h5 => by funext j; simp only [am_up, if_neg h3, if_neg h5])⟩⟩
      · have h3 : ¬ (1 ≤ zn0 ∧ zn0 ≤ 48) := h3
        refine az_to 2 (pc2 := 43) (lv2 := [some (az_r 4), some (az_i (((t : Nat) : Int))), some (az_i (zd)), some (az_i (zn0)), none, none]) (st2 := [az_r 5]) (s2 := s) rfl ?_
        refine az_clv (v := some (az_r 5)) (t := am_up s 5 0 (2)) (m2 := am_m_X6_outOfRange) (as := [az_r 5]) (rest := []) 46 rfl rfl ⟨rfl, rfl⟩ (by omega) (zs_X6_outOfRange (s := s)  (by omega) ) ?_
        refine az_to 0 (pc2 := 46) (lv2 := [some (az_r 4), some (az_i (((t : Nat) : Int))), some (az_i (zd)), some (az_i (zn0)), none, none]) (st2 := [az_r 5]) (s2 := am_up s 5 0 (2)) rfl ?_
        refine az_retA rfl rfl ?_
        have e : zo_riddle S ((t : Nat) : Int) zd zn0 = (2, 0, 0, S) := by
          simp only [zo_riddle, Int.toNat_natCast]
          first | (rw [if_pos (by omega)]) | (rw [if_neg (by omega), if_pos (by omega)]) | (rw [if_neg (by omega), if_neg (by omega), if_pos (by omega)]) | (rw [if_neg (by omega), if_neg (by omega), if_neg (by omega), if_pos (by omega)]) | (rw [if_neg (by omega), if_neg (by omega), if_neg (by omega), if_neg (by omega), if_pos (by omega)]) | (rw [if_neg (by omega), if_neg (by omega), if_neg (by omega), if_neg (by omega)]) | (rw [if_neg (by omega), if_neg (by omega), if_neg (by omega)]) | (rw [if_neg (by omega), if_neg (by omega)]) | (rw [if_neg (by omega)])
          try rw [hzd.1 (by omega)]
        rw [e]
        exact ⟨rfl, ⟨hR, rfl, fun h => absurd (show (2 : Nat) = 0 from h) (by decide), fun h => absurd (show (2 : Nat) = 3 from h) (by decide), (fun i h3 h5 => by funext j; simp only [am_up, if_neg h3, if_neg h5])⟩⟩
  · have h1 : ¬ (0 ≤ zt ∧ zt < ((zn S 1 : Nat) : Int)) := h1
    refine az_to 2 (pc2 := 15) (lv2 := [some (az_r 4), some (az_i (zt)), some (az_i (zd)), some (az_i (zn0)), none, none]) (st2 := [az_r 5]) (s2 := s) rfl ?_
    refine az_clv (v := some (az_r 5)) (t := am_up s 5 0 (1)) (m2 := am_m_X6_noSuch) (as := [az_r 5]) (rest := []) 18 rfl rfl ⟨rfl, rfl⟩ (by omega) (zs_X6_noSuch (s := s)  (by omega) ) ?_
    refine az_to 0 (pc2 := 18) (lv2 := [some (az_r 4), some (az_i (zt)), some (az_i (zd)), some (az_i (zn0)), none, none]) (st2 := [az_r 5]) (s2 := am_up s 5 0 (1)) rfl ?_
    refine az_retA rfl rfl ?_
    have e : zo_riddle S zt zd zn0 = (1, 0, 0, S) := by
      simp only [zo_riddle, Int.toNat_natCast]
      first | (rw [if_pos (by omega)]) | (rw [if_neg (by omega), if_pos (by omega)]) | (rw [if_neg (by omega), if_neg (by omega), if_pos (by omega)]) | (rw [if_neg (by omega), if_neg (by omega), if_neg (by omega), if_pos (by omega)]) | (rw [if_neg (by omega), if_neg (by omega), if_neg (by omega), if_neg (by omega), if_pos (by omega)]) | (rw [if_neg (by omega), if_neg (by omega), if_neg (by omega), if_neg (by omega)]) | (rw [if_neg (by omega), if_neg (by omega), if_neg (by omega)]) | (rw [if_neg (by omega), if_neg (by omega)]) | (rw [if_neg (by omega)])
      try rw [hzd.1 (by omega)]
    rw [e]
    exact ⟨rfl, ⟨hR, rfl, fun h => absurd (show (1 : Nat) = 0 from h) (by decide), fun h => absurd (show (1 : Nat) = 3 from h) (by decide), (fun i h3 h5 => by funext j; simp only [am_up, if_neg h3, if_neg h5])⟩⟩
set_option maxRecDepth 100000 in
set_option maxHeartbeats 800000 in
theorem zs_X0_layFog {d : Nat} {s : az_S} (hd : 3 ≤ d) {S : zR} {h : Nat} (hR : zRel (s 3) S) (hI : zInv S h) (hh : h ≤ 10000) {zb : Int} {zn0 : Int} (h_zb : az_in zb) (h_zn0 : az_in zn0) : az_R d am_m_X0_layFog 0 (az_ini (am_mL am_m_X0_layFog) [az_r 4, az_i (zb), az_i (zn0)]) [] (s) (zCq s (zo_fog S zb zn0)) := by
  have hz := zI_h hI hh
  refine az_to 0 (pc2 := 0) (lv2 := [some (az_r 4), some (az_i (zb)), some (az_i (zn0)), none, none]) (st2 := []) (s2 := s) rfl ?_
  refine az_to 3 (pc2 := 5) (lv2 := [some (az_r 4), some (az_i (zb)), some (az_i (zn0)), none, none]) (st2 := [az_i (zb), az_r 1]) (s2 := s) rfl ?_
  refine az_clv (v := some (az_i (az_b (0 ≤ zb ∧ zb < ((zn S 0 : Nat) : Int))))) (t := s) (m2 := am_m_X8_isBridge) (as := [az_r 1, az_i (zb)]) (rest := []) 8 rfl rfl ⟨rfl, rfl⟩ (by omega) (zs_X8_isBridge (s := s) (z := zb) (by omega) hR hI hh (by first | assumption | exact ⟨by omega, by omega⟩)) ?_
  refine az_to 0 (pc2 := 8) (lv2 := [some (az_r 4), some (az_i (zb)), some (az_i (zn0)), none, none]) (st2 := [az_i (az_b (0 ≤ zb ∧ zb < ((zn S 0 : Nat) : Int)))]) (s2 := s) rfl ?_
  refine az_ifbn 19 11 rfl (by decide) (fun h1 => ?_) (fun h1 => ?_)
  · have h1 : 0 ≤ zb ∧ zb < ((zn S 0 : Nat) : Int) := h1
    obtain ⟨b, rfl⟩ : ∃ n0 : Nat, zb = n0 := ⟨zb.toNat, by omega⟩
    have hzb := zI_b hI hh (b := b) (by omega)
    refine az_to 0 (pc2 := 19) (lv2 := [some (az_r 4), some (az_i (((b : Nat) : Int))), some (az_i (zn0)), none, none]) (st2 := []) (s2 := s) (rfl) ?_
    refine az_to 3 (pc2 := 23) (lv2 := [some (az_r 4), some (az_i (((b : Nat) : Int))), some (az_i (zn0)), none, none]) (st2 := [az_i (48), az_i (0), az_i (zn0)]) (s2 := s) rfl ?_
    refine az_clv (v := some (az_i (az_b (0 ≤ zn0 ∧ zn0 ≤ 48)))) (t := s) (m2 := am_m_X9_isWithin) (as := [az_i (zn0), az_i (0), az_i (48)]) (rest := []) 26 rfl rfl ⟨rfl, rfl⟩ (by omega) (zs_X9_isWithin (s := s) (z := zn0) (lo := 0) (hi := 48) (by omega) (by first | assumption | exact ⟨by omega, by omega⟩) ⟨by decide, by decide⟩ ⟨by decide, by decide⟩) ?_
    refine az_to 0 (pc2 := 26) (lv2 := [some (az_r 4), some (az_i (((b : Nat) : Int))), some (az_i (zn0)), none, none]) (st2 := [az_i (az_b (0 ≤ zn0 ∧ zn0 ≤ 48))]) (s2 := s) rfl ?_
    refine az_ifbn 37 29 rfl (by decide) (fun h2 => ?_) (fun h2 => ?_)
    · have h2 : 0 ≤ zn0 ∧ zn0 ≤ 48 := h2
      refine az_to 3 (pc2 := 42) (lv2 := [some (az_r 4), some (az_i (((b : Nat) : Int))), some (az_i (zn0)), none, none]) (st2 := [az_i (0), az_r 1]) (s2 := s) rfl ?_
      refine az_clv (v := some (az_i (S 3))) (t := s) (m2 := am_m_X8_of) (as := [az_r 1, az_i (0)]) (rest := []) 45 rfl rfl ⟨rfl, rfl⟩ (by omega) (zs_X8_of_0 (s := s)  (by omega) hR hI hh) ?_
      refine az_to 0 (pc2 := 45) (lv2 := [some (az_r 4), some (az_i (((b : Nat) : Int))), some (az_i (zn0)), none, none]) (st2 := [az_i (S 3)]) (s2 := s) rfl ?_
      refine az_to 4 (pc2 := 49) (lv2 := [some (az_r 4), some (az_i (((b : Nat) : Int))), some (az_i (zn0)), some (az_i ((S 3 + zn0))), none]) (st2 := [az_i (zn0)]) (s2 := s) rfl ?_
      refine az_ifc 71 52 rfl (by decide) (by first | assumption | exact ⟨by omega, by omega⟩) (fun h3 => ?_) (fun h3 => ?_)
      · have h3 : ¬ zn0 = 0 := h3
        refine az_to 4 (pc2 := 77) (lv2 := [some (az_r 4), some (az_i (((b : Nat) : Int))), some (az_i (zn0)), some (az_i ((S 3 + zn0))), none]) (st2 := [az_i (5), az_i (((b : Nat) : Int)), az_r 1]) (s2 := s) rfl ?_
        refine az_clv (v := some (az_i (zB S b 4))) (t := s) (m2 := am_m_X8_ofBridge) (as := [az_r 1, az_i (((b : Nat) : Int)), az_i (5)]) (rest := []) 80 rfl rfl ⟨rfl, rfl⟩ (by omega) (zs_X8_ofBridge (s := s) (b := b) (k := 5) (by omega) hR (by omega) (by omega) (by omega)) ?_
        refine az_to 0 (pc2 := 80) (lv2 := [some (az_r 4), some (az_i (((b : Nat) : Int))), some (az_i (zn0)), some (az_i ((S 3 + zn0))), none]) (st2 := [az_i (zB S b 4)]) (s2 := s) rfl ?_
        refine az_to 1 (pc2 := 81) (lv2 := [some (az_r 4), some (az_i (((b : Nat) : Int))), some (az_i (zn0)), some (az_i ((S 3 + zn0))), none]) (st2 := [az_i ((S 3 + zn0)), az_i (zB S b 4)]) (s2 := s) rfl ?_
        refine az_if2 88 84 rfl (by decide) (by first | assumption | exact ⟨by omega, by omega⟩) (by first | assumption | exact ⟨by omega, by omega⟩) (fun h4 => ?_) (fun h4 => ?_)
        · have h4 : ¬ zB S b 4 = (S 3 + zn0) := h4
          refine az_to 3 (pc2 := 93) (lv2 := [some (az_r 4), some (az_i (((b : Nat) : Int))), some (az_i (zn0)), some (az_i ((S 3 + zn0))), some (az_i (0))]) (st2 := [az_i (0)]) (s2 := s) rfl ?_
          refine az_ifc 106 96 rfl (by decide) ⟨by decide, by decide⟩ (fun _ => ?_) (fun h => absurd (show az_cnd _ _ _ by unfold az_cnd; decide) h)
          refine az_to 5 (pc2 := 113) (lv2 := [some (az_r 4), some (az_i (((b : Nat) : Int))), some (az_i (zn0)), some (az_i ((S 3 + zn0))), some (az_i (0))]) (st2 := [az_i ((S 3 + zn0)), az_i (5), az_i (((b : Nat) : Int)), az_r 1]) (s2 := s) rfl ?_
          refine az_clv (v := none) (t := am_up s 3 (5 + 13 * b + 5) ((S 3 + zn0))) (m2 := am_m_X8_setBridge) (as := [az_r 1, az_i (((b : Nat) : Int)), az_i (5), az_i ((S 3 + zn0))]) (rest := []) 116 rfl rfl ⟨rfl, rfl⟩ (by omega) (zs_X8_setBridge (s := s) (b := b) (k := 5) (v := ((S 3 + zn0))) (by omega) (by omega) (by omega)) ?_
          refine az_to 0 (pc2 := 116) (lv2 := [some (az_r 4), some (az_i (((b : Nat) : Int))), some (az_i (zn0)), some (az_i ((S 3 + zn0))), some (az_i (0))]) (st2 := []) (s2 := am_up s 3 (5 + 13 * b + 5) ((S 3 + zn0))) rfl ?_
          refine az_to 3 (pc2 := 121) (lv2 := [some (az_r 4), some (az_i (((b : Nat) : Int))), some (az_i (zn0)), some (az_i ((S 3 + zn0))), some (az_i (0))]) (st2 := [az_i ((S 3 + zn0)), az_r 5]) (s2 := am_up s 3 (5 + 13 * b + 5) ((S 3 + zn0))) rfl ?_
          refine az_clv (v := some (az_r 5)) (t := am_up (am_up (am_up s 3 (5 + 13 * b + 5) ((S 3 + zn0))) 5 0 (0)) 5 1 (((S 3 + zn0)))) (m2 := am_m_X6_done) (as := [az_r 5, az_i ((S 3 + zn0))]) (rest := []) 124 rfl rfl ⟨rfl, rfl⟩ (by omega) (zs_X6_done (s := am_up s 3 (5 + 13 * b + 5) ((S 3 + zn0))) (v := ((S 3 + zn0))) (by omega) ) ?_
          refine az_to 0 (pc2 := 124) (lv2 := [some (az_r 4), some (az_i (((b : Nat) : Int))), some (az_i (zn0)), some (az_i ((S 3 + zn0))), some (az_i (0))]) (st2 := [az_r 5]) (s2 := am_up (am_up (am_up s 3 (5 + 13 * b + 5) ((S 3 + zn0))) 5 0 (0)) 5 1 (((S 3 + zn0)))) rfl ?_
          refine az_retA rfl rfl ?_
          have e : zo_fog S ((b : Nat) : Int) zn0 = (0, ((S 3 + zn0)), 0, zup S (6 + 12 * b + 4) (S 3 + zn0)) := by
            simp only [zo_fog, Int.toNat_natCast]
            rw [if_neg (by omega), if_neg (by omega), if_neg (by omega)]
          rw [e]
          exact ⟨rfl, ⟨zRel_B (k := 5) (j := 4) hR ⟨hz.1.1, hz.1.2.1⟩ (by omega) ⟨by omega, by omega⟩ rfl (S 3 + zn0), rfl, fun _ => rfl, fun h => absurd (show (0 : Nat) = 3 from h) (by decide), (fun i h3 h5 => by funext j; simp only [am_up, if_neg h3, if_neg h5])⟩⟩
        · have h4 : zB S b 4 = (S 3 + zn0) := Decidable.not_not.mp h4
          refine az_to 4 (pc2 := 93) (lv2 := [some (az_r 4), some (az_i (((b : Nat) : Int))), some (az_i (zn0)), some (az_i ((S 3 + zn0))), some (az_i (1))]) (st2 := [az_i (1)]) (s2 := s) rfl ?_
          refine az_ifc 106 96 rfl (by decide) ⟨by decide, by decide⟩ (fun h => absurd h (by unfold az_cnd; decide)) (fun _ => ?_)
          refine az_to 4 (pc2 := 102) (lv2 := [some (az_r 4), some (az_i (((b : Nat) : Int))), some (az_i (zn0)), some (az_i ((S 3 + zn0))), some (az_i (1))]) (st2 := [az_i (zn0), az_i (3), az_r 5]) (s2 := s) rfl ?_
          refine az_clv (v := some (az_r 5)) (t := am_up (am_up (am_up s 5 0 (3)) 5 2 (3)) 5 3 (zn0)) (m2 := am_m_X6_refused) (as := [az_r 5, az_i (3), az_i (zn0)]) (rest := []) 105 rfl rfl ⟨rfl, rfl⟩ (by omega) (zs_X6_refused (s := s) (r := 3) (w := zn0) (by omega) ) ?_
          refine az_to 0 (pc2 := 105) (lv2 := [some (az_r 4), some (az_i (((b : Nat) : Int))), some (az_i (zn0)), some (az_i ((S 3 + zn0))), some (az_i (1))]) (st2 := [az_r 5]) (s2 := am_up (am_up (am_up s 5 0 (3)) 5 2 (3)) 5 3 (zn0)) rfl ?_
          refine az_retA rfl rfl ?_
          have e : zo_fog S ((b : Nat) : Int) zn0 = (3, 3, zn0, S) := by
            simp only [zo_fog, Int.toNat_natCast]
            first | (rw [if_pos (by omega)]) | (rw [if_neg (by omega), if_pos (by omega)]) | (rw [if_neg (by omega), if_neg (by omega), if_pos (by omega)]) | (rw [if_neg (by omega), if_neg (by omega), if_neg (by omega), if_pos (by omega)]) | (rw [if_neg (by omega), if_neg (by omega), if_neg (by omega), if_neg (by omega), if_pos (by omega)]) | (rw [if_neg (by omega), if_neg (by omega), if_neg (by omega), if_neg (by omega)]) | (rw [if_neg (by omega), if_neg (by omega), if_neg (by omega)]) | (rw [if_neg (by omega), if_neg (by omega)]) | (rw [if_neg (by omega)])
          rw [e]
          exact ⟨rfl, ⟨hR, rfl, fun h => absurd (show (3 : Nat) = 0 from h) (by decide), fun _ => ⟨rfl, rfl⟩, (fun i h3 h5 => by funext j; simp only [am_up, if_neg h3, if_neg h5])⟩⟩
      · have h3 : zn0 = 0 := Decidable.not_not.mp h3
        refine az_to 3 (pc2 := 57) (lv2 := [some (az_r 4), some (az_i (((b : Nat) : Int))), some (az_i (zn0)), some (az_i ((S 3 + zn0))), none]) (st2 := [az_i (((b : Nat) : Int)), az_r 1]) (s2 := s) rfl ?_
        refine az_clv (v := some (az_i (az_b (S 3 < zB S b 4)))) (t := s) (m2 := am_m_X8_isInFog) (as := [az_r 1, az_i (((b : Nat) : Int))]) (rest := []) 60 rfl rfl ⟨rfl, rfl⟩ (by omega) (zs_X8_isInFog (s := s) (b := b) (by omega) hR hI hh (by omega)) ?_
        refine az_to 0 (pc2 := 60) (lv2 := [some (az_r 4), some (az_i (((b : Nat) : Int))), some (az_i (zn0)), some (az_i ((S 3 + zn0))), none]) (st2 := [az_i (az_b (S 3 < zB S b 4))]) (s2 := s) rfl ?_
        refine az_ifbn 67 63 rfl (by decide) (fun h5 => ?_) (fun h5 => ?_)
        · have h5 : S 3 < zB S b 4 := h5
          refine az_to 4 (pc2 := 93) (lv2 := [some (az_r 4), some (az_i (((b : Nat) : Int))), some (az_i (zn0)), some (az_i ((S 3 + zn0))), some (az_i (0))]) (st2 := [az_i (0)]) (s2 := s) rfl ?_
          refine az_ifc 106 96 rfl (by decide) ⟨by decide, by decide⟩ (fun _ => ?_) (fun h => absurd (show az_cnd _ _ _ by unfold az_cnd; decide) h)
          refine az_to 5 (pc2 := 113) (lv2 := [some (az_r 4), some (az_i (((b : Nat) : Int))), some (az_i (zn0)), some (az_i ((S 3 + zn0))), some (az_i (0))]) (st2 := [az_i ((S 3 + zn0)), az_i (5), az_i (((b : Nat) : Int)), az_r 1]) (s2 := s) rfl ?_
          refine az_clv (v := none) (t := am_up s 3 (5 + 13 * b + 5) ((S 3 + zn0))) (m2 := am_m_X8_setBridge) (as := [az_r 1, az_i (((b : Nat) : Int)), az_i (5), az_i ((S 3 + zn0))]) (rest := []) 116 rfl rfl ⟨rfl, rfl⟩ (by omega) (zs_X8_setBridge (s := s) (b := b) (k := 5) (v := ((S 3 + zn0))) (by omega) (by omega) (by omega)) ?_
          refine az_to 0 (pc2 := 116) (lv2 := [some (az_r 4), some (az_i (((b : Nat) : Int))), some (az_i (zn0)), some (az_i ((S 3 + zn0))), some (az_i (0))]) (st2 := []) (s2 := am_up s 3 (5 + 13 * b + 5) ((S 3 + zn0))) rfl ?_
          refine az_to 3 (pc2 := 121) (lv2 := [some (az_r 4), some (az_i (((b : Nat) : Int))), some (az_i (zn0)), some (az_i ((S 3 + zn0))), some (az_i (0))]) (st2 := [az_i ((S 3 + zn0)), az_r 5]) (s2 := am_up s 3 (5 + 13 * b + 5) ((S 3 + zn0))) rfl ?_
          refine az_clv (v := some (az_r 5)) (t := am_up (am_up (am_up s 3 (5 + 13 * b + 5) ((S 3 + zn0))) 5 0 (0)) 5 1 (((S 3 + zn0)))) (m2 := am_m_X6_done) (as := [az_r 5, az_i ((S 3 + zn0))]) (rest := []) 124 rfl rfl ⟨rfl, rfl⟩ (by omega) (zs_X6_done (s := am_up s 3 (5 + 13 * b + 5) ((S 3 + zn0))) (v := ((S 3 + zn0))) (by omega) ) ?_
          refine az_to 0 (pc2 := 124) (lv2 := [some (az_r 4), some (az_i (((b : Nat) : Int))), some (az_i (zn0)), some (az_i ((S 3 + zn0))), some (az_i (0))]) (st2 := [az_r 5]) (s2 := am_up (am_up (am_up s 3 (5 + 13 * b + 5) ((S 3 + zn0))) 5 0 (0)) 5 1 (((S 3 + zn0)))) rfl ?_
          refine az_retA rfl rfl ?_
          have e : zo_fog S ((b : Nat) : Int) zn0 = (0, ((S 3 + zn0)), 0, zup S (6 + 12 * b + 4) (S 3 + zn0)) := by
            simp only [zo_fog, Int.toNat_natCast]
            rw [if_neg (by omega), if_neg (by omega), if_neg (by omega)]
          rw [e]
          exact ⟨rfl, ⟨zRel_B (k := 5) (j := 4) hR ⟨hz.1.1, hz.1.2.1⟩ (by omega) ⟨by omega, by omega⟩ rfl (S 3 + zn0), rfl, fun _ => rfl, fun h => absurd (show (0 : Nat) = 3 from h) (by decide), (fun i h3 h5 => by funext j; simp only [am_up, if_neg h3, if_neg h5])⟩⟩
        · have h5 : ¬ (S 3 < zB S b 4) := h5
          refine az_to 4 (pc2 := 93) (lv2 := [some (az_r 4), some (az_i (((b : Nat) : Int))), some (az_i (zn0)), some (az_i ((S 3 + zn0))), some (az_i (1))]) (st2 := [az_i (1)]) (s2 := s) rfl ?_
          refine az_ifc 106 96 rfl (by decide) ⟨by decide, by decide⟩ (fun h => absurd h (by unfold az_cnd; decide)) (fun _ => ?_)
          refine az_to 4 (pc2 := 102) (lv2 := [some (az_r 4), some (az_i (((b : Nat) : Int))), some (az_i (zn0)), some (az_i ((S 3 + zn0))), some (az_i (1))]) (st2 := [az_i (zn0), az_i (3), az_r 5]) (s2 := s) rfl ?_
          refine az_clv (v := some (az_r 5)) (t := am_up (am_up (am_up s 5 0 (3)) 5 2 (3)) 5 3 (zn0)) (m2 := am_m_X6_refused) (as := [az_r 5, az_i (3), az_i (zn0)]) (rest := []) 105 rfl rfl ⟨rfl, rfl⟩ (by omega) (zs_X6_refused (s := s) (r := 3) (w := zn0) (by omega) ) ?_
          refine az_to 0 (pc2 := 105) (lv2 := [some (az_r 4), some (az_i (((b : Nat) : Int))), some (az_i (zn0)), some (az_i ((S 3 + zn0))), some (az_i (1))]) (st2 := [az_r 5]) (s2 := am_up (am_up (am_up s 5 0 (3)) 5 2 (3)) 5 3 (zn0)) rfl ?_
          refine az_retA rfl rfl ?_
          have e : zo_fog S ((b : Nat) : Int) zn0 = (3, 3, zn0, S) := by
            simp only [zo_fog, Int.toNat_natCast]
            first | (rw [if_pos (by omega)]) | (rw [if_neg (by omega), if_pos (by omega)]) | (rw [if_neg (by omega), if_neg (by omega), if_pos (by omega)]) | (rw [if_neg (by omega), if_neg (by omega), if_neg (by omega), if_pos (by omega)]) | (rw [if_neg (by omega), if_neg (by omega), if_neg (by omega), if_neg (by omega), if_pos (by omega)]) | (rw [if_neg (by omega), if_neg (by omega), if_neg (by omega), if_neg (by omega)]) | (rw [if_neg (by omega), if_neg (by omega), if_neg (by omega)]) | (rw [if_neg (by omega), if_neg (by omega)]) | (rw [if_neg (by omega)])
          rw [e]
          exact ⟨rfl, ⟨hR, rfl, fun h => absurd (show (3 : Nat) = 0 from h) (by decide), fun _ => ⟨rfl, rfl⟩, (fun i h3 h5 => by funext j; simp only [am_up, if_neg h3, if_neg h5])⟩⟩
    · have h2 : ¬ (0 ≤ zn0 ∧ zn0 ≤ 48) := h2
      refine az_to 2 (pc2 := 33) (lv2 := [some (az_r 4), some (az_i (((b : Nat) : Int))), some (az_i (zn0)), none, none]) (st2 := [az_r 5]) (s2 := s) rfl ?_
      refine az_clv (v := some (az_r 5)) (t := am_up s 5 0 (2)) (m2 := am_m_X6_outOfRange) (as := [az_r 5]) (rest := []) 36 rfl rfl ⟨rfl, rfl⟩ (by omega) (zs_X6_outOfRange (s := s)  (by omega) ) ?_
      refine az_to 0 (pc2 := 36) (lv2 := [some (az_r 4), some (az_i (((b : Nat) : Int))), some (az_i (zn0)), none, none]) (st2 := [az_r 5]) (s2 := am_up s 5 0 (2)) rfl ?_
      refine az_retA rfl rfl ?_
      have e : zo_fog S ((b : Nat) : Int) zn0 = (2, 0, 0, S) := by
        simp only [zo_fog, Int.toNat_natCast]
        first | (rw [if_pos (by omega)]) | (rw [if_neg (by omega), if_pos (by omega)]) | (rw [if_neg (by omega), if_neg (by omega), if_pos (by omega)]) | (rw [if_neg (by omega), if_neg (by omega), if_neg (by omega), if_pos (by omega)]) | (rw [if_neg (by omega), if_neg (by omega), if_neg (by omega), if_neg (by omega), if_pos (by omega)]) | (rw [if_neg (by omega), if_neg (by omega), if_neg (by omega), if_neg (by omega)]) | (rw [if_neg (by omega), if_neg (by omega), if_neg (by omega)]) | (rw [if_neg (by omega), if_neg (by omega)]) | (rw [if_neg (by omega)])
      rw [e]
      exact ⟨rfl, ⟨hR, rfl, fun h => absurd (show (2 : Nat) = 0 from h) (by decide), fun h => absurd (show (2 : Nat) = 3 from h) (by decide), (fun i h3 h5 => by funext j; simp only [am_up, if_neg h3, if_neg h5])⟩⟩
  · have h1 : ¬ (0 ≤ zb ∧ zb < ((zn S 0 : Nat) : Int)) := h1
    refine az_to 2 (pc2 := 15) (lv2 := [some (az_r 4), some (az_i (zb)), some (az_i (zn0)), none, none]) (st2 := [az_r 5]) (s2 := s) rfl ?_
    refine az_clv (v := some (az_r 5)) (t := am_up s 5 0 (1)) (m2 := am_m_X6_noSuch) (as := [az_r 5]) (rest := []) 18 rfl rfl ⟨rfl, rfl⟩ (by omega) (zs_X6_noSuch (s := s)  (by omega) ) ?_
    refine az_to 0 (pc2 := 18) (lv2 := [some (az_r 4), some (az_i (zb)), some (az_i (zn0)), none, none]) (st2 := [az_r 5]) (s2 := am_up s 5 0 (1)) rfl ?_
    refine az_retA rfl rfl ?_
    have e : zo_fog S zb zn0 = (1, 0, 0, S) := by
      simp only [zo_fog, Int.toNat_natCast]
      first | (rw [if_pos (by omega)]) | (rw [if_neg (by omega), if_pos (by omega)]) | (rw [if_neg (by omega), if_neg (by omega), if_pos (by omega)]) | (rw [if_neg (by omega), if_neg (by omega), if_neg (by omega), if_pos (by omega)]) | (rw [if_neg (by omega), if_neg (by omega), if_neg (by omega), if_neg (by omega), if_pos (by omega)]) | (rw [if_neg (by omega), if_neg (by omega), if_neg (by omega), if_neg (by omega)]) | (rw [if_neg (by omega), if_neg (by omega), if_neg (by omega)]) | (rw [if_neg (by omega), if_neg (by omega)]) | (rw [if_neg (by omega)])
    rw [e]
    exact ⟨rfl, ⟨hR, rfl, fun h => absurd (show (1 : Nat) = 0 from h) (by decide), fun h => absurd (show (1 : Nat) = 3 from h) (by decide), (fun i h3 h5 => by funext j; simp only [am_up, if_neg h3, if_neg h5])⟩⟩
set_option maxRecDepth 100000 in
set_option maxHeartbeats 800000 in
theorem zs_X0_changeToll {d : Nat} {s : az_S} (hd : 3 ≤ d) {S : zR} {h : Nat} (hR : zRel (s 3) S) (hI : zInv S h) (hh : h ≤ 10000) {zb : Int} {zr : Int} (h_zb : az_in zb) (h_zr : az_in zr) : az_R d am_m_X0_changeToll 0 (az_ini (am_mL am_m_X0_changeToll) [az_r 4, az_i (zb), az_i (zr)]) [] (s) (zCq s (zo_price S zb zr)) := by
  have hz := zI_h hI hh
  refine az_to 0 (pc2 := 0) (lv2 := [some (az_r 4), some (az_i (zb)), some (az_i (zr)), none]) (st2 := []) (s2 := s) rfl ?_
  refine az_to 3 (pc2 := 5) (lv2 := [some (az_r 4), some (az_i (zb)), some (az_i (zr)), none]) (st2 := [az_i (zb), az_r 1]) (s2 := s) rfl ?_
  refine az_clv (v := some (az_i (az_b (0 ≤ zb ∧ zb < ((zn S 0 : Nat) : Int))))) (t := s) (m2 := am_m_X8_isBridge) (as := [az_r 1, az_i (zb)]) (rest := []) 8 rfl rfl ⟨rfl, rfl⟩ (by omega) (zs_X8_isBridge (s := s) (z := zb) (by omega) hR hI hh (by first | assumption | exact ⟨by omega, by omega⟩)) ?_
  refine az_to 0 (pc2 := 8) (lv2 := [some (az_r 4), some (az_i (zb)), some (az_i (zr)), none]) (st2 := [az_i (az_b (0 ≤ zb ∧ zb < ((zn S 0 : Nat) : Int)))]) (s2 := s) rfl ?_
  refine az_ifbn 19 11 rfl (by decide) (fun h1 => ?_) (fun h1 => ?_)
  · have h1 : 0 ≤ zb ∧ zb < ((zn S 0 : Nat) : Int) := h1
    obtain ⟨b, rfl⟩ : ∃ n0 : Nat, zb = n0 := ⟨zb.toNat, by omega⟩
    have hzb := zI_b hI hh (b := b) (by omega)
    refine az_to 0 (pc2 := 19) (lv2 := [some (az_r 4), some (az_i (((b : Nat) : Int))), some (az_i (zr)), none]) (st2 := []) (s2 := s) (rfl) ?_
    refine az_to 3 (pc2 := 23) (lv2 := [some (az_r 4), some (az_i (((b : Nat) : Int))), some (az_i (zr)), none]) (st2 := [az_i (9), az_i (0), az_i (zr)]) (s2 := s) rfl ?_
    refine az_clv (v := some (az_i (az_b (0 ≤ zr ∧ zr ≤ 9)))) (t := s) (m2 := am_m_X9_isWithin) (as := [az_i (zr), az_i (0), az_i (9)]) (rest := []) 26 rfl rfl ⟨rfl, rfl⟩ (by omega) (zs_X9_isWithin (s := s) (z := zr) (lo := 0) (hi := 9) (by omega) (by first | assumption | exact ⟨by omega, by omega⟩) ⟨by decide, by decide⟩ ⟨by decide, by decide⟩) ?_
    refine az_to 0 (pc2 := 26) (lv2 := [some (az_r 4), some (az_i (((b : Nat) : Int))), some (az_i (zr)), none]) (st2 := [az_i (az_b (0 ≤ zr ∧ zr ≤ 9))]) (s2 := s) rfl ?_
    refine az_ifbn 37 29 rfl (by decide) (fun h2 => ?_) (fun h2 => ?_)
    · have h2 : 0 ≤ zr ∧ zr ≤ 9 := h2
      refine az_to 4 (pc2 := 43) (lv2 := [some (az_r 4), some (az_i (((b : Nat) : Int))), some (az_i (zr)), none]) (st2 := [az_i (3), az_i (((b : Nat) : Int)), az_r 1]) (s2 := s) rfl ?_
      refine az_clv (v := some (az_i (zB S b 3))) (t := s) (m2 := am_m_X8_ofBridge) (as := [az_r 1, az_i (((b : Nat) : Int)), az_i (3)]) (rest := []) 46 rfl rfl ⟨rfl, rfl⟩ (by omega) (zs_X8_ofBridge (s := s) (b := b) (k := 3) (by omega) hR (by omega) (by omega) (by omega)) ?_
      refine az_to 0 (pc2 := 46) (lv2 := [some (az_r 4), some (az_i (((b : Nat) : Int))), some (az_i (zr)), none]) (st2 := [az_i (zB S b 3)]) (s2 := s) rfl ?_
      refine az_to 3 (pc2 := 49) (lv2 := [some (az_r 4), some (az_i (((b : Nat) : Int))), some (az_i (zr)), some (az_i (zB S b 3))]) (st2 := [az_i (zr), az_i (zB S b 3)]) (s2 := s) rfl ?_
      refine az_if2 62 52 rfl (by decide) (by first | assumption | exact ⟨by omega, by omega⟩) (by first | assumption | exact ⟨by omega, by omega⟩) (fun h3 => ?_) (fun h3 => ?_)
      · have h3 : ¬ zB S b 3 = zr := h3
        refine az_to 3 (pc2 := 67) (lv2 := [some (az_r 4), some (az_i (((b : Nat) : Int))), some (az_i (zr)), some (az_i (zB S b 3))]) (st2 := [az_i (((b : Nat) : Int)), az_r 1]) (s2 := s) rfl ?_
        refine az_clv (v := some (az_i (az_b (0 ≤ zB S b 5)))) (t := s) (m2 := am_m_X8_isDisputed) (as := [az_r 1, az_i (((b : Nat) : Int))]) (rest := []) 70 rfl rfl ⟨rfl, rfl⟩ (by omega) (zs_X8_isDisputed (s := s) (b := b) (by omega) hR hI hh (by omega)) ?_
        refine az_to 0 (pc2 := 70) (lv2 := [some (az_r 4), some (az_i (((b : Nat) : Int))), some (az_i (zr)), some (az_i (zB S b 3))]) (st2 := [az_i (az_b (0 ≤ zB S b 5))]) (s2 := s) rfl ?_
        refine az_ifbe 93 73 rfl (by decide) (fun h4 => ?_) (fun h4 => ?_)
        · have h4 : ¬ (0 ≤ zB S b 5) := h4
          refine az_to 5 (pc2 := 100) (lv2 := [some (az_r 4), some (az_i (((b : Nat) : Int))), some (az_i (zr)), some (az_i (zB S b 3))]) (st2 := [az_i (zr), az_i (3), az_i (((b : Nat) : Int)), az_r 1]) (s2 := s) rfl ?_
          refine az_clv (v := none) (t := am_up s 3 (5 + 13 * b + 3) zr) (m2 := am_m_X8_setBridge) (as := [az_r 1, az_i (((b : Nat) : Int)), az_i (3), az_i (zr)]) (rest := []) 103 rfl rfl ⟨rfl, rfl⟩ (by omega) (zs_X8_setBridge (s := s) (b := b) (k := 3) (v := zr) (by omega) (by omega) (by omega)) ?_
          refine az_to 0 (pc2 := 103) (lv2 := [some (az_r 4), some (az_i (((b : Nat) : Int))), some (az_i (zr)), some (az_i (zB S b 3))]) (st2 := []) (s2 := am_up s 3 (5 + 13 * b + 3) zr) rfl ?_
          refine az_to 3 (pc2 := 108) (lv2 := [some (az_r 4), some (az_i (((b : Nat) : Int))), some (az_i (zr)), some (az_i (zB S b 3))]) (st2 := [az_i (zB S b 3), az_r 5]) (s2 := am_up s 3 (5 + 13 * b + 3) zr) rfl ?_
          refine az_clv (v := some (az_r 5)) (t := am_up (am_up (am_up s 3 (5 + 13 * b + 3) zr) 5 0 (0)) 5 1 ((zB S b 3))) (m2 := am_m_X6_done) (as := [az_r 5, az_i (zB S b 3)]) (rest := []) 111 rfl rfl ⟨rfl, rfl⟩ (by omega) (zs_X6_done (s := am_up s 3 (5 + 13 * b + 3) zr) (v := (zB S b 3)) (by omega) ) ?_
          refine az_to 0 (pc2 := 111) (lv2 := [some (az_r 4), some (az_i (((b : Nat) : Int))), some (az_i (zr)), some (az_i (zB S b 3))]) (st2 := [az_r 5]) (s2 := am_up (am_up (am_up s 3 (5 + 13 * b + 3) zr) 5 0 (0)) 5 1 ((zB S b 3))) rfl ?_
          refine az_retA rfl rfl ?_
          have e : zo_price S ((b : Nat) : Int) zr = (0, (zB S b 3), 0, zup S (6 + 12 * b + 3) zr) := by
            simp only [zo_price, Int.toNat_natCast]
            rw [if_neg (by omega), if_neg (by omega), if_neg (by omega), if_neg (by omega)]
          rw [e]
          exact ⟨rfl, ⟨zRel_B (k := 3) (j := 3) hR ⟨hz.1.1, hz.1.2.1⟩ (by omega) ⟨by omega, by omega⟩ rfl zr, rfl, fun _ => rfl, fun h => absurd (show (0 : Nat) = 3 from h) (by decide), (fun i h3 h5 => by funext j; simp only [am_up, if_neg h3, if_neg h5])⟩⟩
        · have h4 : 0 ≤ zB S b 5 := h4
          refine az_to 7 (pc2 := 86) (lv2 := [some (az_r 4), some (az_i (((b : Nat) : Int))), some (az_i (zr)), some (az_i (zB S b 3))]) (st2 := [az_i (6), az_i (((b : Nat) : Int)), az_r 1, az_i (10), az_r 5]) (s2 := s) rfl ?_
          refine az_clv (v := some (az_i (zB S b 5))) (t := s) (m2 := am_m_X8_ofBridge) (as := [az_r 1, az_i (((b : Nat) : Int)), az_i (6)]) (rest := [az_i (10), az_r 5]) 89 rfl rfl ⟨rfl, rfl⟩ (by omega) (zs_X8_ofBridge (s := s) (b := b) (k := 6) (by omega) hR (by omega) (by omega) (by omega)) ?_
          refine az_to 0 (pc2 := 89) (lv2 := [some (az_r 4), some (az_i (((b : Nat) : Int))), some (az_i (zr)), some (az_i (zB S b 3))]) (st2 := [az_i (zB S b 5), az_i (10), az_r 5]) (s2 := s) rfl ?_
          refine az_clv (v := some (az_r 5)) (t := am_up (am_up (am_up s 5 0 (3)) 5 2 (10)) 5 3 ((zB S b 5))) (m2 := am_m_X6_refused) (as := [az_r 5, az_i (10), az_i (zB S b 5)]) (rest := []) 92 rfl rfl ⟨rfl, rfl⟩ (by omega) (zs_X6_refused (s := s) (r := 10) (w := (zB S b 5)) (by omega) ) ?_
          refine az_to 0 (pc2 := 92) (lv2 := [some (az_r 4), some (az_i (((b : Nat) : Int))), some (az_i (zr)), some (az_i (zB S b 3))]) (st2 := [az_r 5]) (s2 := am_up (am_up (am_up s 5 0 (3)) 5 2 (10)) 5 3 ((zB S b 5))) rfl ?_
          refine az_retA rfl rfl ?_
          have e : zo_price S ((b : Nat) : Int) zr = (3, 10, (zB S b 5), S) := by
            simp only [zo_price, Int.toNat_natCast]
            first | (rw [if_pos (by omega)]) | (rw [if_neg (by omega), if_pos (by omega)]) | (rw [if_neg (by omega), if_neg (by omega), if_pos (by omega)]) | (rw [if_neg (by omega), if_neg (by omega), if_neg (by omega), if_pos (by omega)]) | (rw [if_neg (by omega), if_neg (by omega), if_neg (by omega), if_neg (by omega), if_pos (by omega)]) | (rw [if_neg (by omega), if_neg (by omega), if_neg (by omega), if_neg (by omega)]) | (rw [if_neg (by omega), if_neg (by omega), if_neg (by omega)]) | (rw [if_neg (by omega), if_neg (by omega)]) | (rw [if_neg (by omega)])
          rw [e]
          exact ⟨rfl, ⟨hR, rfl, fun h => absurd (show (3 : Nat) = 0 from h) (by decide), fun _ => ⟨rfl, rfl⟩, (fun i h3 h5 => by funext j; simp only [am_up, if_neg h3, if_neg h5])⟩⟩
      · have h3 : zB S b 3 = zr := Decidable.not_not.mp h3
        refine az_to 4 (pc2 := 58) (lv2 := [some (az_r 4), some (az_i (((b : Nat) : Int))), some (az_i (zr)), some (az_i (zB S b 3))]) (st2 := [az_i (zr), az_i (3), az_r 5]) (s2 := s) rfl ?_
        refine az_clv (v := some (az_r 5)) (t := am_up (am_up (am_up s 5 0 (3)) 5 2 (3)) 5 3 (zr)) (m2 := am_m_X6_refused) (as := [az_r 5, az_i (3), az_i (zr)]) (rest := []) 61 rfl rfl ⟨rfl, rfl⟩ (by omega) (zs_X6_refused (s := s) (r := 3) (w := zr) (by omega) ) ?_
        refine az_to 0 (pc2 := 61) (lv2 := [some (az_r 4), some (az_i (((b : Nat) : Int))), some (az_i (zr)), some (az_i (zB S b 3))]) (st2 := [az_r 5]) (s2 := am_up (am_up (am_up s 5 0 (3)) 5 2 (3)) 5 3 (zr)) rfl ?_
        refine az_retA rfl rfl ?_
        have e : zo_price S ((b : Nat) : Int) zr = (3, 3, zr, S) := by
          simp only [zo_price, Int.toNat_natCast]
          first | (rw [if_pos (by omega)]) | (rw [if_neg (by omega), if_pos (by omega)]) | (rw [if_neg (by omega), if_neg (by omega), if_pos (by omega)]) | (rw [if_neg (by omega), if_neg (by omega), if_neg (by omega), if_pos (by omega)]) | (rw [if_neg (by omega), if_neg (by omega), if_neg (by omega), if_neg (by omega), if_pos (by omega)]) | (rw [if_neg (by omega), if_neg (by omega), if_neg (by omega), if_neg (by omega)]) | (rw [if_neg (by omega), if_neg (by omega), if_neg (by omega)]) | (rw [if_neg (by omega), if_neg (by omega)]) | (rw [if_neg (by omega)])
        rw [e]
        exact ⟨rfl, ⟨hR, rfl, fun h => absurd (show (3 : Nat) = 0 from h) (by decide), fun _ => ⟨rfl, rfl⟩, (fun i h3 h5 => by funext j; simp only [am_up, if_neg h3, if_neg h5])⟩⟩
    · have h2 : ¬ (0 ≤ zr ∧ zr ≤ 9) := h2
      refine az_to 2 (pc2 := 33) (lv2 := [some (az_r 4), some (az_i (((b : Nat) : Int))), some (az_i (zr)), none]) (st2 := [az_r 5]) (s2 := s) rfl ?_
      refine az_clv (v := some (az_r 5)) (t := am_up s 5 0 (2)) (m2 := am_m_X6_outOfRange) (as := [az_r 5]) (rest := []) 36 rfl rfl ⟨rfl, rfl⟩ (by omega) (zs_X6_outOfRange (s := s)  (by omega) ) ?_
      refine az_to 0 (pc2 := 36) (lv2 := [some (az_r 4), some (az_i (((b : Nat) : Int))), some (az_i (zr)), none]) (st2 := [az_r 5]) (s2 := am_up s 5 0 (2)) rfl ?_
      refine az_retA rfl rfl ?_
      have e : zo_price S ((b : Nat) : Int) zr = (2, 0, 0, S) := by
        simp only [zo_price, Int.toNat_natCast]
        first | (rw [if_pos (by omega)]) | (rw [if_neg (by omega), if_pos (by omega)]) | (rw [if_neg (by omega), if_neg (by omega), if_pos (by omega)]) | (rw [if_neg (by omega), if_neg (by omega), if_neg (by omega), if_pos (by omega)]) | (rw [if_neg (by omega), if_neg (by omega), if_neg (by omega), if_neg (by omega), if_pos (by omega)]) | (rw [if_neg (by omega), if_neg (by omega), if_neg (by omega), if_neg (by omega)]) | (rw [if_neg (by omega), if_neg (by omega), if_neg (by omega)]) | (rw [if_neg (by omega), if_neg (by omega)]) | (rw [if_neg (by omega)])
      rw [e]
      exact ⟨rfl, ⟨hR, rfl, fun h => absurd (show (2 : Nat) = 0 from h) (by decide), fun h => absurd (show (2 : Nat) = 3 from h) (by decide), (fun i h3 h5 => by funext j; simp only [am_up, if_neg h3, if_neg h5])⟩⟩
  · have h1 : ¬ (0 ≤ zb ∧ zb < ((zn S 0 : Nat) : Int)) := h1
    refine az_to 2 (pc2 := 15) (lv2 := [some (az_r 4), some (az_i (zb)), some (az_i (zr)), none]) (st2 := [az_r 5]) (s2 := s) rfl ?_
    refine az_clv (v := some (az_r 5)) (t := am_up s 5 0 (1)) (m2 := am_m_X6_noSuch) (as := [az_r 5]) (rest := []) 18 rfl rfl ⟨rfl, rfl⟩ (by omega) (zs_X6_noSuch (s := s)  (by omega) ) ?_
    refine az_to 0 (pc2 := 18) (lv2 := [some (az_r 4), some (az_i (zb)), some (az_i (zr)), none]) (st2 := [az_r 5]) (s2 := am_up s 5 0 (1)) rfl ?_
    refine az_retA rfl rfl ?_
    have e : zo_price S zb zr = (1, 0, 0, S) := by
      simp only [zo_price, Int.toNat_natCast]
      first | (rw [if_pos (by omega)]) | (rw [if_neg (by omega), if_pos (by omega)]) | (rw [if_neg (by omega), if_neg (by omega), if_pos (by omega)]) | (rw [if_neg (by omega), if_neg (by omega), if_neg (by omega), if_pos (by omega)]) | (rw [if_neg (by omega), if_neg (by omega), if_neg (by omega), if_neg (by omega), if_pos (by omega)]) | (rw [if_neg (by omega), if_neg (by omega), if_neg (by omega), if_neg (by omega)]) | (rw [if_neg (by omega), if_neg (by omega), if_neg (by omega)]) | (rw [if_neg (by omega), if_neg (by omega)]) | (rw [if_neg (by omega)])
    rw [e]
    exact ⟨rfl, ⟨hR, rfl, fun h => absurd (show (1 : Nat) = 0 from h) (by decide), fun h => absurd (show (1 : Nat) = 3 from h) (by decide), (fun i h3 h5 => by funext j; simp only [am_up, if_neg h3, if_neg h5])⟩⟩

