/-! CLASS, 4: crossings, disputes, settlements, strikes, hours; written by program (wip/tools/zg/s4.py) -/
set_option maxRecDepth 100000 in
set_option maxHeartbeats 800000 in
theorem zs_X0_addToGoat {d : Nat} {s : az_S} (hd : 2 ≤ d) {S : zR} (hR : zRel (s 3) S) {g k : Nat} {v : Int} (hg : g < 5) (hk : k < 5) : az_R d am_m_X0_addToGoat 0 (az_ini (am_mL am_m_X0_addToGoat) [az_r 4, az_i (((g : Nat) : Int)), az_i (((k : Nat) : Int)), az_i (v)]) [] (s) (az_ret (none) (am_up s 3 (159 + 5 * g + k) (zG S g k + v))) := by
  refine az_to 0 (pc2 := 0) (lv2 := [some (az_r 4), some (az_i (((g : Nat) : Int))), some (az_i (((k : Nat) : Int))), some (az_i (v))]) (st2 := []) (s2 := s) rfl ?_
  refine az_to 8 (pc2 := 12) (lv2 := [some (az_r 4), some (az_i (((g : Nat) : Int))), some (az_i (((k : Nat) : Int))), some (az_i (v))]) (st2 := [az_i (((k : Nat) : Int)), az_i (((g : Nat) : Int)), az_r 1, az_i (((k : Nat) : Int)), az_i (((g : Nat) : Int)), az_r 1]) (s2 := s) rfl ?_
  refine az_clv (v := some (az_i (zG S g k))) (t := s) (m2 := am_m_X8_ofGoat) (as := [az_r 1, az_i (((g : Nat) : Int)), az_i (((k : Nat) : Int))]) (rest := [az_i (((k : Nat) : Int)), az_i (((g : Nat) : Int)), az_r 1]) 15 rfl rfl ⟨rfl, rfl⟩ (by omega) (zs_X8_ofGoat (s := s) (g := g) (k := k) (by omega) hR (by omega) (by omega)) ?_
  refine az_to 0 (pc2 := 15) (lv2 := [some (az_r 4), some (az_i (((g : Nat) : Int))), some (az_i (((k : Nat) : Int))), some (az_i (v))]) (st2 := [az_i (zG S g k), az_i (((k : Nat) : Int)), az_i (((g : Nat) : Int)), az_r 1]) (s2 := s) rfl ?_
  refine az_to 2 (pc2 := 17) (lv2 := [some (az_r 4), some (az_i (((g : Nat) : Int))), some (az_i (((k : Nat) : Int))), some (az_i (v))]) (st2 := [az_i ((zG S g k + v)), az_i (((k : Nat) : Int)), az_i (((g : Nat) : Int)), az_r 1]) (s2 := s) rfl ?_
  refine az_clv (v := none) (t := am_up s 3 (159 + 5 * g + k) ((zG S g k + v))) (m2 := am_m_X8_setGoat) (as := [az_r 1, az_i (((g : Nat) : Int)), az_i (((k : Nat) : Int)), az_i ((zG S g k + v))]) (rest := []) 20 rfl rfl ⟨rfl, rfl⟩ (by omega) (zs_X8_setGoat (s := s) (g := g) (k := k) (v := ((zG S g k + v))) (by omega) (by omega) (by omega)) ?_
  refine az_to 0 (pc2 := 20) (lv2 := [some (az_r 4), some (az_i (((g : Nat) : Int))), some (az_i (((k : Nat) : Int))), some (az_i (v))]) (st2 := []) (s2 := am_up s 3 (159 + 5 * g + k) ((zG S g k + v))) rfl ?_
  refine az_ret0 rfl rfl ?_
  exact ⟨rfl, rfl⟩
set_option maxRecDepth 100000 in
set_option maxHeartbeats 800000 in
theorem zs_X0_addToTroll {d : Nat} {s : az_S} (hd : 2 ≤ d) {S : zR} (hR : zRel (s 3) S) {t k : Nat} {v : Int} (ht : t < 6) (hk : k < 4) : az_R d am_m_X0_addToTroll 0 (az_ini (am_mL am_m_X0_addToTroll) [az_r 4, az_i (((t : Nat) : Int)), az_i (((k : Nat) : Int)), az_i (v)]) [] (s) (az_ret (none) (am_up s 3 (135 + 4 * t + k) (zT S t k + v))) := by
  refine az_to 0 (pc2 := 0) (lv2 := [some (az_r 4), some (az_i (((t : Nat) : Int))), some (az_i (((k : Nat) : Int))), some (az_i (v))]) (st2 := []) (s2 := s) rfl ?_
  refine az_to 8 (pc2 := 12) (lv2 := [some (az_r 4), some (az_i (((t : Nat) : Int))), some (az_i (((k : Nat) : Int))), some (az_i (v))]) (st2 := [az_i (((k : Nat) : Int)), az_i (((t : Nat) : Int)), az_r 1, az_i (((k : Nat) : Int)), az_i (((t : Nat) : Int)), az_r 1]) (s2 := s) rfl ?_
  refine az_clv (v := some (az_i (zT S t k))) (t := s) (m2 := am_m_X8_ofTroll) (as := [az_r 1, az_i (((t : Nat) : Int)), az_i (((k : Nat) : Int))]) (rest := [az_i (((k : Nat) : Int)), az_i (((t : Nat) : Int)), az_r 1]) 15 rfl rfl ⟨rfl, rfl⟩ (by omega) (zs_X8_ofTroll (s := s) (t := t) (k := k) (by omega) hR (by omega) (by omega)) ?_
  refine az_to 0 (pc2 := 15) (lv2 := [some (az_r 4), some (az_i (((t : Nat) : Int))), some (az_i (((k : Nat) : Int))), some (az_i (v))]) (st2 := [az_i (zT S t k), az_i (((k : Nat) : Int)), az_i (((t : Nat) : Int)), az_r 1]) (s2 := s) rfl ?_
  refine az_to 2 (pc2 := 17) (lv2 := [some (az_r 4), some (az_i (((t : Nat) : Int))), some (az_i (((k : Nat) : Int))), some (az_i (v))]) (st2 := [az_i ((zT S t k + v)), az_i (((k : Nat) : Int)), az_i (((t : Nat) : Int)), az_r 1]) (s2 := s) rfl ?_
  refine az_clv (v := none) (t := am_up s 3 (135 + 4 * t + k) ((zT S t k + v))) (m2 := am_m_X8_setTroll) (as := [az_r 1, az_i (((t : Nat) : Int)), az_i (((k : Nat) : Int)), az_i ((zT S t k + v))]) (rest := []) 20 rfl rfl ⟨rfl, rfl⟩ (by omega) (zs_X8_setTroll (s := s) (t := t) (k := k) (v := ((zT S t k + v))) (by omega) (by omega) (by omega)) ?_
  refine az_to 0 (pc2 := 20) (lv2 := [some (az_r 4), some (az_i (((t : Nat) : Int))), some (az_i (((k : Nat) : Int))), some (az_i (v))]) (st2 := []) (s2 := am_up s 3 (135 + 4 * t + k) ((zT S t k + v))) rfl ?_
  refine az_ret0 rfl rfl ?_
  exact ⟨rfl, rfl⟩
set_option maxRecDepth 100000 in
set_option maxHeartbeats 800000 in
theorem zs_X0_addToBridge_p {d : Nat} {s : az_S} (hd : 2 ≤ d) {S : zR} (hR : zRel (s 3) S) {b g : Nat} {v : Int} (hb : b < zn S 0) (hb2 : b < 10) (hg : g < 5) : az_R d am_m_X0_addToBridge 0 (az_ini (am_mL am_m_X0_addToBridge) [az_r 4, az_i (((b : Nat) : Int)), az_i (((8 + g : Nat) : Int)), az_i (v)]) [] (s) (az_ret (none) (am_up s 3 (5 + 13 * b + (8 + g)) (zB S b (7 + g) + v))) := by
  refine az_to 0 (pc2 := 0) (lv2 := [some (az_r 4), some (az_i (((b : Nat) : Int))), some (az_i (((8 + g : Nat) : Int))), some (az_i (v))]) (st2 := []) (s2 := s) rfl ?_
  refine az_to 8 (pc2 := 12) (lv2 := [some (az_r 4), some (az_i (((b : Nat) : Int))), some (az_i (((8 + g : Nat) : Int))), some (az_i (v))]) (st2 := [az_i (((8 + g : Nat) : Int)), az_i (((b : Nat) : Int)), az_r 1, az_i (((8 + g : Nat) : Int)), az_i (((b : Nat) : Int)), az_r 1]) (s2 := s) rfl ?_
  refine az_clv (v := some (az_i (zB S b (7 + g)))) (t := s) (m2 := am_m_X8_ofBridge) (as := [az_r 1, az_i (((b : Nat) : Int)), az_i (((8 + g : Nat) : Int))]) (rest := [az_i (((8 + g : Nat) : Int)), az_i (((b : Nat) : Int)), az_r 1]) 15 rfl rfl ⟨rfl, rfl⟩ (by omega) (zs_X8_ofBridge_p (s := s) (b := b) (g := g) (by omega) hR (by omega) (by omega) (by omega)) ?_
  refine az_to 0 (pc2 := 15) (lv2 := [some (az_r 4), some (az_i (((b : Nat) : Int))), some (az_i (((8 + g : Nat) : Int))), some (az_i (v))]) (st2 := [az_i (zB S b (7 + g)), az_i (((8 + g : Nat) : Int)), az_i (((b : Nat) : Int)), az_r 1]) (s2 := s) rfl ?_
  refine az_to 2 (pc2 := 17) (lv2 := [some (az_r 4), some (az_i (((b : Nat) : Int))), some (az_i (((8 + g : Nat) : Int))), some (az_i (v))]) (st2 := [az_i ((zB S b (7 + g) + v)), az_i (((8 + g : Nat) : Int)), az_i (((b : Nat) : Int)), az_r 1]) (s2 := s) rfl ?_
  refine az_clv (v := none) (t := am_up s 3 (5 + 13 * b + (8 + g)) ((zB S b (7 + g) + v))) (m2 := am_m_X8_setBridge) (as := [az_r 1, az_i (((b : Nat) : Int)), az_i (((8 + g : Nat) : Int)), az_i ((zB S b (7 + g) + v))]) (rest := []) 20 rfl rfl ⟨rfl, rfl⟩ (by omega) (zs_X8_setBridge (s := s) (b := b) (k := (8 + g)) (v := ((zB S b (7 + g) + v))) (by omega) (by omega) (by omega)) ?_
  refine az_to 0 (pc2 := 20) (lv2 := [some (az_r 4), some (az_i (((b : Nat) : Int))), some (az_i (((8 + g : Nat) : Int))), some (az_i (v))]) (st2 := []) (s2 := am_up s 3 (5 + 13 * b + (8 + g)) ((zB S b (7 + g) + v))) rfl ?_
  refine az_ret0 rfl rfl ?_
  exact ⟨rfl, rfl⟩
set_option maxRecDepth 100000 in
set_option maxHeartbeats 800000 in
theorem zs_X0_addToBridge {d : Nat} {s : az_S} (hd : 2 ≤ d) {S : zR} (hR : zRel (s 3) S) {b : Nat} {v : Int} (hb : b < zn S 0) (hb2 : b < 10) : az_R d am_m_X0_addToBridge 0 (az_ini (am_mL am_m_X0_addToBridge) [az_r 4, az_i (((b : Nat) : Int)), az_i (7), az_i (v)]) [] (s) (az_ret (none) (am_up s 3 (5 + 13 * b + 7) (zB S b 6 + v))) := by
  refine az_to 0 (pc2 := 0) (lv2 := [some (az_r 4), some (az_i (((b : Nat) : Int))), some (az_i (7)), some (az_i (v))]) (st2 := []) (s2 := s) rfl ?_
  refine az_to 8 (pc2 := 12) (lv2 := [some (az_r 4), some (az_i (((b : Nat) : Int))), some (az_i (7)), some (az_i (v))]) (st2 := [az_i (7), az_i (((b : Nat) : Int)), az_r 1, az_i (7), az_i (((b : Nat) : Int)), az_r 1]) (s2 := s) rfl ?_
  refine az_clv (v := some (az_i (zB S b 6))) (t := s) (m2 := am_m_X8_ofBridge) (as := [az_r 1, az_i (((b : Nat) : Int)), az_i (7)]) (rest := [az_i (7), az_i (((b : Nat) : Int)), az_r 1]) 15 rfl rfl ⟨rfl, rfl⟩ (by omega) (zs_X8_ofBridge (s := s) (b := b) (k := 7) (by omega) hR (by omega) (by omega) (by omega)) ?_
  refine az_to 0 (pc2 := 15) (lv2 := [some (az_r 4), some (az_i (((b : Nat) : Int))), some (az_i (7)), some (az_i (v))]) (st2 := [az_i (zB S b 6), az_i (7), az_i (((b : Nat) : Int)), az_r 1]) (s2 := s) rfl ?_
  refine az_to 2 (pc2 := 17) (lv2 := [some (az_r 4), some (az_i (((b : Nat) : Int))), some (az_i (7)), some (az_i (v))]) (st2 := [az_i ((zB S b 6 + v)), az_i (7), az_i (((b : Nat) : Int)), az_r 1]) (s2 := s) rfl ?_
  refine az_clv (v := none) (t := am_up s 3 (5 + 13 * b + 7) ((zB S b 6 + v))) (m2 := am_m_X8_setBridge) (as := [az_r 1, az_i (((b : Nat) : Int)), az_i (7), az_i ((zB S b 6 + v))]) (rest := []) 20 rfl rfl ⟨rfl, rfl⟩ (by omega) (zs_X8_setBridge (s := s) (b := b) (k := 7) (v := ((zB S b 6 + v))) (by omega) (by omega) (by omega)) ?_
  refine az_to 0 (pc2 := 20) (lv2 := [some (az_r 4), some (az_i (((b : Nat) : Int))), some (az_i (7)), some (az_i (v))]) (st2 := []) (s2 := am_up s 3 (5 + 13 * b + 7) ((zB S b 6 + v))) rfl ?_
  refine az_ret0 rfl rfl ?_
  exact ⟨rfl, rfl⟩
set_option maxRecDepth 100000 in
set_option maxHeartbeats 800000 in
theorem zs_X0_payToll {d : Nat} {s : az_S} (hd : 3 ≤ d) {S : zR} {h : Nat} (hR : zRel (s 3) S) (hI : zInv S h) (hh : h ≤ 10000) {g b : Nat} (hg : g < zn S 2) (hb : b < zn S 0) (hle : zdue S b ≤ zG S g 1) : az_R d am_m_X0_payToll 0 (az_ini (am_mL am_m_X0_payToll) [az_r 4, az_i (((g : Nat) : Int)), az_i (((b : Nat) : Int)), az_i (zdue S b)]) [] (s) (fun o t => o = .inl none ∧ zRel (t 3) (zpS S g b) ∧ ∀ i, i ≠ 3 → t i = s i) := by
  have hz := zI_h hI hh
  have hzb := zI_b hI hh hb
  have hzg := zI_g hI hh (g := g) (by omega)
  have hdu := zdue_r hI hh hb
  refine az_to 0 (pc2 := 0) (lv2 := [some (az_r 4), some (az_i (((g : Nat) : Int))), some (az_i (((b : Nat) : Int))), some (az_i (zdue S b))]) (st2 := []) (s2 := s) rfl ?_
  refine az_to 5 (pc2 := 5) (lv2 := [some (az_r 4), some (az_i (((g : Nat) : Int))), some (az_i (((b : Nat) : Int))), some (az_i (zdue S b))]) (st2 := [az_i ((-(zdue S b))), az_i (1), az_i (((g : Nat) : Int)), az_r 4]) (s2 := s) rfl ?_
  refine az_clv (v := none) (t := am_up s 3 (159 + 5 * g + 1) (zG S g 1 + ((-(zdue S b))))) (m2 := am_m_X0_addToGoat) (as := [az_r 4, az_i (((g : Nat) : Int)), az_i (1), az_i ((-(zdue S b)))]) (rest := []) 8 rfl rfl ⟨rfl, rfl⟩ (by omega) (zs_X0_addToGoat (s := s) (g := g) (k := 1) (v := ((-(zdue S b)))) (by omega) hR (by omega) (by omega)) ?_
  refine az_to 0 (pc2 := 8) (lv2 := [some (az_r 4), some (az_i (((g : Nat) : Int))), some (az_i (((b : Nat) : Int))), some (az_i (zdue S b))]) (st2 := []) (s2 := am_up s 3 (159 + 5 * g + 1) (zG S g 1 + ((-(zdue S b))))) rfl ?_
  obtain ⟨S1, hS1⟩ : ∃ X, X = zup S (150 + 5 * g + 1) (zG S g 1 - zdue S b) := ⟨_, rfl⟩
  have hR1 : zRel ((am_up s 3 (159 + 5 * g + 1) (zG S g 1 + ((-(zdue S b))))) 3) S1 := by
    rw [hS1]
    exact zRel_G hR ⟨hz.1.1, hz.1.2.1⟩ (by omega) (by omega : 1 < 5) _
  have hI1 : zInv S1 h := by
    rw [hS1]
    have hp5 := hI.2.2.2.2.1 g (by omega)
    unfold zIg at hp5
    exact zV_purse hI (Nat.le_refl h) (by omega) ⟨by omega, by omega⟩
  have hn1 : zn S1 0 = zn S 0 ∧ zn S1 1 = zn S 1 ∧ zn S1 2 = zn S 2 := by rw [hS1]; exact ⟨zn_up (by omega), zn_up (by omega), zn_up (by omega)⟩
  have hd1 : zB S1 b 5 = zB S b 5 := by rw [hS1]; exact zup_ne _ _ (by omega)
  have hc1 : zat S1 b = zat S b := by rw [hS1]; exact zat_up b (by omega) (fun u hu => by omega)
  refine az_to 3 (pc2 := 13) (lv2 := [some (az_r 4), some (az_i (((g : Nat) : Int))), some (az_i (((b : Nat) : Int))), some (az_i (zdue S b))]) (st2 := [az_i (((b : Nat) : Int)), az_r 1]) (s2 := am_up s 3 (159 + 5 * g + 1) (zG S g 1 + ((-(zdue S b))))) rfl ?_
  refine az_clv (v := some (az_i (az_b (0 ≤ zB S1 b 5)))) (t := am_up s 3 (159 + 5 * g + 1) (zG S g 1 + ((-(zdue S b))))) (m2 := am_m_X8_isDisputed) (as := [az_r 1, az_i (((b : Nat) : Int))]) (rest := []) 16 rfl rfl ⟨rfl, rfl⟩ (by omega) (zs_X8_isDisputed (s := am_up s 3 (159 + 5 * g + 1) (zG S g 1 + ((-(zdue S b))))) (b := b) (by omega) hR1 hI1 hh (by omega)) ?_
  refine az_to 0 (pc2 := 16) (lv2 := [some (az_r 4), some (az_i (((g : Nat) : Int))), some (az_i (((b : Nat) : Int))), some (az_i (zdue S b))]) (st2 := [az_i (az_b (0 ≤ zB S1 b 5))]) (s2 := am_up s 3 (159 + 5 * g + 1) (zG S g 1 + ((-(zdue S b))))) rfl ?_
  refine az_to 0 (pc2 := 16) (lv2 := [some (az_r 4), some (az_i (((g : Nat) : Int))), some (az_i (((b : Nat) : Int))), some (az_i (zdue S b))]) (st2 := [az_i (az_b (0 ≤ zB S b 5))]) (s2 := am_up s 3 (159 + 5 * g + 1) (zG S g 1 + ((-(zdue S b))))) (by rw [hd1]; rfl) ?_
  refine az_ifbe 32 19 rfl (by decide) (fun h1 => ?_) (fun h1 => ?_)
  · have h1 : ¬ (0 ≤ zB S b 5) := h1
    refine az_to 3 (pc2 := 37) (lv2 := [some (az_r 4), some (az_i (((g : Nat) : Int))), some (az_i (((b : Nat) : Int))), some (az_i (zdue S b))]) (st2 := [az_i (((b : Nat) : Int)), az_r 1]) (s2 := am_up s 3 (159 + 5 * g + 1) (zG S g 1 + ((-(zdue S b))))) rfl ?_
    refine az_clv (v := some (az_i (az_b (0 ≤ zat S1 b)))) (t := am_up s 3 (159 + 5 * g + 1) (zG S g 1 + ((-(zdue S b))))) (m2 := am_m_X8_isCounted) (as := [az_r 1, az_i (((b : Nat) : Int))]) (rest := []) 40 rfl rfl ⟨rfl, rfl⟩ (by omega) (zs_X8_isCounted (s := am_up s 3 (159 + 5 * g + 1) (zG S g 1 + ((-(zdue S b))))) (b := b) (by omega) hR1 hI1 hh (by omega)) ?_
    refine az_to 0 (pc2 := 40) (lv2 := [some (az_r 4), some (az_i (((g : Nat) : Int))), some (az_i (((b : Nat) : Int))), some (az_i (zdue S b))]) (st2 := [az_i (az_b (0 ≤ zat S1 b))]) (s2 := am_up s 3 (159 + 5 * g + 1) (zG S g 1 + ((-(zdue S b))))) rfl ?_
    refine az_to 0 (pc2 := 40) (lv2 := [some (az_r 4), some (az_i (((g : Nat) : Int))), some (az_i (((b : Nat) : Int))), some (az_i (zdue S b))]) (st2 := [az_i (az_b (0 ≤ zat S b))]) (s2 := am_up s 3 (159 + 5 * g + 1) (zG S g 1 + ((-(zdue S b))))) (by rw [hc1]; rfl) ?_
    refine az_ifbe 58 43 rfl (by decide) (fun h2 => ?_) (fun h2 => ?_)
    · have h2 : ¬ (0 ≤ zat S b) := h2
      refine az_ret0 rfl rfl ?_
      refine ⟨rfl, ?_, fun i h3 => by funext j; simp only [am_up, if_neg h3]⟩
      unfold zpS
      rw [if_neg (by assumption), if_neg (by omega), ← hS1]
      exact hR1
    · have h2 : 0 ≤ zat S b := h2
      refine az_to 5 (pc2 := 50) (lv2 := [some (az_r 4), some (az_i (((g : Nat) : Int))), some (az_i (((b : Nat) : Int))), some (az_i (zdue S b))]) (st2 := [az_i (4), az_i (((b : Nat) : Int)), az_r 1, az_r 4]) (s2 := am_up s 3 (159 + 5 * g + 1) (zG S g 1 + ((-(zdue S b))))) rfl ?_
      refine az_clv (v := some (az_i (zat S1 b))) (t := am_up s 3 (159 + 5 * g + 1) (zG S g 1 + ((-(zdue S b))))) (m2 := am_m_X8_ofBridge) (as := [az_r 1, az_i (((b : Nat) : Int)), az_i (4)]) (rest := [az_r 4]) 53 rfl rfl ⟨rfl, rfl⟩ (by omega) (zs_X8_ofBridge (s := am_up s 3 (159 + 5 * g + 1) (zG S g 1 + ((-(zdue S b))))) (b := b) (k := 4) (by omega) hR1 (by omega) (by omega) (by omega)) ?_
      refine az_to 0 (pc2 := 53) (lv2 := [some (az_r 4), some (az_i (((g : Nat) : Int))), some (az_i (((b : Nat) : Int))), some (az_i (zdue S b))]) (st2 := [az_i (zat S1 b), az_r 4]) (s2 := am_up s 3 (159 + 5 * g + 1) (zG S g 1 + ((-(zdue S b))))) rfl ?_
      obtain ⟨T, hT⟩ : ∃ n0 : Nat, zat S b = n0 := ⟨(zat S b).toNat, by omega⟩
      refine az_to 0 (pc2 := 53) (lv2 := [some (az_r 4), some (az_i (((g : Nat) : Int))), some (az_i (((b : Nat) : Int))), some (az_i (zdue S b))]) (st2 := [az_i (((T : Nat) : Int)), az_r 4]) (s2 := am_up s 3 (159 + 5 * g + 1) (zG S g 1 + ((-(zdue S b))))) (by rw [hc1, hT]; rfl) ?_
      refine az_to 2 (pc2 := 55) (lv2 := [some (az_r 4), some (az_i (((g : Nat) : Int))), some (az_i (((b : Nat) : Int))), some (az_i (zdue S b))]) (st2 := [az_i (zdue S b), az_i (1), az_i (((T : Nat) : Int)), az_r 4]) (s2 := am_up s 3 (159 + 5 * g + 1) (zG S g 1 + ((-(zdue S b))))) rfl ?_
      refine az_clv (v := none) (t := am_up (am_up s 3 (159 + 5 * g + 1) (zG S g 1 + ((-(zdue S b))))) 3 (135 + 4 * T + 1) (zT S1 T 1 + (zdue S b))) (m2 := am_m_X0_addToTroll) (as := [az_r 4, az_i (((T : Nat) : Int)), az_i (1), az_i (zdue S b)]) (rest := []) 58 rfl rfl ⟨rfl, rfl⟩ (by omega) (zs_X0_addToTroll (s := am_up s 3 (159 + 5 * g + 1) (zG S g 1 + ((-(zdue S b))))) (t := T) (k := 1) (v := (zdue S b)) (by omega) hR1 (by omega) (by omega)) ?_
      refine az_to 0 (pc2 := 58) (lv2 := [some (az_r 4), some (az_i (((g : Nat) : Int))), some (az_i (((b : Nat) : Int))), some (az_i (zdue S b))]) (st2 := []) (s2 := am_up (am_up s 3 (159 + 5 * g + 1) (zG S g 1 + ((-(zdue S b))))) 3 (135 + 4 * T + 1) (zT S1 T 1 + (zdue S b))) rfl ?_
      refine az_ret0 rfl rfl ?_
      refine ⟨rfl, ?_, fun i h3 => by funext j; simp only [am_up, if_neg h3]⟩
      have q := zRel_T (t := T) (k := 1) hR1 (by rw [hn1.1, hn1.2.1]; exact ⟨hz.1.1, hz.1.2.1⟩) (by omega) ⟨by omega, by omega⟩ (zT S1 T 1 + zdue S b)
      have e2 : zT S1 T 1 = zT S T 1 := by rw [hS1]; exact zup_ne _ _ (by omega)
      unfold zpS
      rw [if_neg (by assumption), hT]
      split
      · rw [Int.toNat_natCast, ← e2, ← hS1]; exact q
      · rw [← hS1]
        have e3 : zup S1 (126 + 4 * T + 1) (zT S1 T 1 + zdue S b) = S1 := zup_self (by show zT S1 T 1 + zdue S b = zT S1 T 1; omega)
        rw [e3] at q
        exact q
  · have h1 : 0 ≤ zB S b 5 := h1
    refine az_to 6 (pc2 := 26) (lv2 := [some (az_r 4), some (az_i (((g : Nat) : Int))), some (az_i (((b : Nat) : Int))), some (az_i (zdue S b))]) (st2 := [az_i (zdue S b), az_i ((8 + ((g : Nat) : Int))), az_i (((b : Nat) : Int)), az_r 4]) (s2 := am_up s 3 (159 + 5 * g + 1) (zG S g 1 + ((-(zdue S b))))) rfl ?_
    refine az_clv (v := none) (t := am_up (am_up s 3 (159 + 5 * g + 1) (zG S g 1 + ((-(zdue S b))))) 3 (5 + 13 * b + (8 + g)) (zB S1 b (7 + g) + (zdue S b))) (m2 := am_m_X0_addToBridge) (as := [az_r 4, az_i (((b : Nat) : Int)), az_i ((8 + ((g : Nat) : Int))), az_i (zdue S b)]) (rest := []) 29 rfl rfl ⟨rfl, rfl⟩ (by omega) (zs_X0_addToBridge_p (s := am_up s 3 (159 + 5 * g + 1) (zG S g 1 + ((-(zdue S b))))) (b := b) (g := g) (v := (zdue S b)) (by omega) hR1 (by omega) (by omega) (by omega)) ?_
    refine az_to 0 (pc2 := 29) (lv2 := [some (az_r 4), some (az_i (((g : Nat) : Int))), some (az_i (((b : Nat) : Int))), some (az_i (zdue S b))]) (st2 := []) (s2 := am_up (am_up s 3 (159 + 5 * g + 1) (zG S g 1 + ((-(zdue S b))))) 3 (5 + 13 * b + (8 + g)) (zB S1 b (7 + g) + (zdue S b))) rfl ?_
    refine az_to 1 (pc2 := 58) (lv2 := [some (az_r 4), some (az_i (((g : Nat) : Int))), some (az_i (((b : Nat) : Int))), some (az_i (zdue S b))]) (st2 := []) (s2 := am_up (am_up s 3 (159 + 5 * g + 1) (zG S g 1 + ((-(zdue S b))))) 3 (5 + 13 * b + (8 + g)) (zB S1 b (7 + g) + (zdue S b))) rfl ?_
    refine az_ret0 rfl rfl ?_
    refine ⟨rfl, ?_, fun i h3 => by funext j; simp only [am_up, if_neg h3]⟩
    unfold zpS
    rw [if_pos (by assumption), ← hS1]
    have q := zRel_B (k := 8 + g) (j := 7 + g) hR1 (by rw [hn1.1, hn1.2.1]; exact ⟨hz.1.1, hz.1.2.1⟩) (by omega : b < zn S1 0) ⟨by omega, by omega⟩ (by rw [if_neg (by omega)]; omega) (zB S1 b (7 + g) + zdue S b)
    have e2 : zB S1 b (7 + g) = zB S b (7 + g) := by rw [hS1]; exact zup_ne _ _ (by omega)
    rw [← e2]
    exact q
set_option maxRecDepth 100000 in
set_option maxHeartbeats 800000 in
theorem zs_X0_crossBridge {d : Nat} {s : az_S} (hd : 4 ≤ d) {S : zR} {h : Nat} (hR : zRel (s 3) S) (hI : zInv S h) (hh : h ≤ 10000) {zg : Int} {zb : Int} (h_zg : az_in zg) (h_zb : az_in zb) (hh9 : h + 1 ≤ 10000) : az_R d am_m_X0_crossBridge 0 (az_ini (am_mL am_m_X0_crossBridge) [az_r 4, az_i (zg), az_i (zb)]) [] (s) (zCq s (zo_cross S zg zb)) := by
  have hz := zI_h hI hh
  refine az_to 0 (pc2 := 0) (lv2 := [some (az_r 4), some (az_i (zg)), some (az_i (zb)), none, none, none, none, none]) (st2 := []) (s2 := s) rfl ?_
  refine az_to 3 (pc2 := 5) (lv2 := [some (az_r 4), some (az_i (zg)), some (az_i (zb)), none, none, none, none, none]) (st2 := [az_i (zg), az_r 1]) (s2 := s) rfl ?_
  refine az_clv (v := some (az_i (az_b (0 ≤ zg ∧ zg < ((zn S 2 : Nat) : Int))))) (t := s) (m2 := am_m_X8_isGoat) (as := [az_r 1, az_i (zg)]) (rest := []) 8 rfl rfl ⟨rfl, rfl⟩ (by omega) (zs_X8_isGoat (s := s) (z := zg) (by omega) hR hI hh (by first | assumption | exact ⟨by omega, by omega⟩)) ?_
  refine az_to 0 (pc2 := 8) (lv2 := [some (az_r 4), some (az_i (zg)), some (az_i (zb)), none, none, none, none, none]) (st2 := [az_i (az_b (0 ≤ zg ∧ zg < ((zn S 2 : Nat) : Int)))]) (s2 := s) rfl ?_
  refine az_ifbe 22 11 rfl (by decide) (fun h1 => ?_) (fun h1 => ?_)
  · have h1 : ¬ (0 ≤ zg ∧ zg < ((zn S 2 : Nat) : Int)) := h1
    refine az_to 2 (pc2 := 26) (lv2 := [some (az_r 4), some (az_i (zg)), some (az_i (zb)), none, none, none, none, none]) (st2 := [az_r 5]) (s2 := s) rfl ?_
    refine az_clv (v := some (az_r 5)) (t := am_up s 5 0 (1)) (m2 := am_m_X6_noSuch) (as := [az_r 5]) (rest := []) 29 rfl rfl ⟨rfl, rfl⟩ (by omega) (zs_X6_noSuch (s := s)  (by omega) ) ?_
    refine az_to 0 (pc2 := 29) (lv2 := [some (az_r 4), some (az_i (zg)), some (az_i (zb)), none, none, none, none, none]) (st2 := [az_r 5]) (s2 := am_up s 5 0 (1)) rfl ?_
    refine az_retA rfl rfl ?_
    have e : zo_cross S zg zb = (1, 0, 0, S) := by
      simp only [zo_cross, Int.toNat_natCast]
      first | (rw [if_pos (by omega)]) | (rw [if_neg (by omega), if_pos (by omega)]) | (rw [if_neg (by omega), if_neg (by omega), if_pos (by omega)]) | (rw [if_neg (by omega), if_neg (by omega), if_neg (by omega), if_pos (by omega)]) | (rw [if_neg (by omega), if_neg (by omega), if_neg (by omega), if_neg (by omega), if_pos (by omega)]) | (rw [if_neg (by omega), if_neg (by omega), if_neg (by omega), if_neg (by omega)]) | (rw [if_neg (by omega), if_neg (by omega), if_neg (by omega)]) | (rw [if_neg (by omega), if_neg (by omega)]) | (rw [if_neg (by omega)])
    rw [e]
    exact ⟨rfl, ⟨hR, rfl, fun h => absurd (show (1 : Nat) = 0 from h) (by decide), fun h => absurd (show (1 : Nat) = 3 from h) (by decide), (fun i h3 h5 => by funext j; simp only [am_up, if_neg h3, if_neg h5])⟩⟩
  · have h1 : 0 ≤ zg ∧ zg < ((zn S 2 : Nat) : Int) := h1
    obtain ⟨g, rfl⟩ : ∃ n0 : Nat, zg = n0 := ⟨zg.toNat, by omega⟩
    have hzg := zI_g hI hh (g := g) (by omega)
    refine az_to 0 (pc2 := 11) (lv2 := [some (az_r 4), some (az_i (((g : Nat) : Int))), some (az_i (zb)), none, none, none, none, none]) (st2 := []) (s2 := s) (rfl) ?_
    refine az_to 3 (pc2 := 16) (lv2 := [some (az_r 4), some (az_i (((g : Nat) : Int))), some (az_i (zb)), none, none, none, none, none]) (st2 := [az_i (zb), az_r 1]) (s2 := s) rfl ?_
    refine az_clv (v := some (az_i (az_b (0 ≤ zb ∧ zb < ((zn S 0 : Nat) : Int))))) (t := s) (m2 := am_m_X8_isBridge) (as := [az_r 1, az_i (zb)]) (rest := []) 19 rfl rfl ⟨rfl, rfl⟩ (by omega) (zs_X8_isBridge (s := s) (z := zb) (by omega) hR hI hh (by first | assumption | exact ⟨by omega, by omega⟩)) ?_
    refine az_to 0 (pc2 := 19) (lv2 := [some (az_r 4), some (az_i (((g : Nat) : Int))), some (az_i (zb)), none, none, none, none, none]) (st2 := [az_i (az_b (0 ≤ zb ∧ zb < ((zn S 0 : Nat) : Int)))]) (s2 := s) rfl ?_
    refine az_ifbn 30 22 rfl (by decide) (fun h2 => ?_) (fun h2 => ?_)
    · have h2 : 0 ≤ zb ∧ zb < ((zn S 0 : Nat) : Int) := h2
      obtain ⟨b, rfl⟩ : ∃ n0 : Nat, zb = n0 := ⟨zb.toNat, by omega⟩
      have hzb := zI_b hI hh (b := b) (by omega)
      have hdu := zdue_r hI hh (b := b) (by omega)
      have htk := ztk_r hI hh (b := b) (by omega)
      refine az_to 0 (pc2 := 30) (lv2 := [some (az_r 4), some (az_i (((g : Nat) : Int))), some (az_i (((b : Nat) : Int))), none, none, none, none, none]) (st2 := []) (s2 := s) (rfl) ?_
      refine az_to 4 (pc2 := 36) (lv2 := [some (az_r 4), some (az_i (((g : Nat) : Int))), some (az_i (((b : Nat) : Int))), none, none, none, none, none]) (st2 := [az_i (2), az_i (((g : Nat) : Int)), az_r 1]) (s2 := s) rfl ?_
      refine az_clv (v := some (az_i (zG S g 2))) (t := s) (m2 := am_m_X8_ofGoat) (as := [az_r 1, az_i (((g : Nat) : Int)), az_i (2)]) (rest := []) 39 rfl rfl ⟨rfl, rfl⟩ (by omega) (zs_X8_ofGoat (s := s) (g := g) (k := 2) (by omega) hR (by omega) (by omega)) ?_
      refine az_to 0 (pc2 := 39) (lv2 := [some (az_r 4), some (az_i (((g : Nat) : Int))), some (az_i (((b : Nat) : Int))), none, none, none, none, none]) (st2 := [az_i (zG S g 2)]) (s2 := s) rfl ?_
      refine az_to 1 (pc2 := 40) (lv2 := [some (az_r 4), some (az_i (((g : Nat) : Int))), some (az_i (((b : Nat) : Int))), none, none, none, none, none]) (st2 := [az_i (1), az_i (zG S g 2)]) (s2 := s) rfl ?_
      refine az_if2 54 43 rfl (by decide) (by first | assumption | exact ⟨by omega, by omega⟩) ⟨by decide, by decide⟩ (fun h3 => ?_) (fun h3 => ?_)
      · have h3 : ¬ zG S g 2 = 1 := h3
        refine az_to 4 (pc2 := 60) (lv2 := [some (az_r 4), some (az_i (((g : Nat) : Int))), some (az_i (((b : Nat) : Int))), none, none, none, none, none]) (st2 := [az_i (0), az_i (((g : Nat) : Int)), az_r 1]) (s2 := s) rfl ?_
        refine az_clv (v := some (az_i (zG S g 0))) (t := s) (m2 := am_m_X8_ofGoat) (as := [az_r 1, az_i (((g : Nat) : Int)), az_i (0)]) (rest := []) 63 rfl rfl ⟨rfl, rfl⟩ (by omega) (zs_X8_ofGoat (s := s) (g := g) (k := 0) (by omega) hR (by omega) (by omega)) ?_
        refine az_to 0 (pc2 := 63) (lv2 := [some (az_r 4), some (az_i (((g : Nat) : Int))), some (az_i (((b : Nat) : Int))), none, none, none, none, none]) (st2 := [az_i (zG S g 0)]) (s2 := s) rfl ?_
        refine az_to 5 (pc2 := 70) (lv2 := [some (az_r 4), some (az_i (((g : Nat) : Int))), some (az_i (((b : Nat) : Int))), some (az_i (zG S g 0)), none, none, none, none]) (st2 := [az_i (zG S g 0), az_i (((b : Nat) : Int)), az_r 1]) (s2 := s) rfl ?_
        refine az_clv (v := some (az_i (zac S b (zG S g 0)))) (t := s) (m2 := am_m_X8_across) (as := [az_r 1, az_i (((b : Nat) : Int)), az_i (zG S g 0)]) (rest := []) 73 rfl rfl ⟨rfl, rfl⟩ (by omega) (zs_X8_across (s := s) (b := b) (l := (zG S g 0)) (by omega) hR hI hh (by omega) (by first | assumption | exact ⟨by omega, by omega⟩)) ?_
        refine az_to 0 (pc2 := 73) (lv2 := [some (az_r 4), some (az_i (((g : Nat) : Int))), some (az_i (((b : Nat) : Int))), some (az_i (zG S g 0)), none, none, none, none]) (st2 := [az_i (zac S b (zG S g 0))]) (s2 := s) rfl ?_
        have hza := zac_s hI hh (b := b) (l := zG S g 0) (by omega) (by omega)
        refine az_to 3 (pc2 := 78) (lv2 := [some (az_r 4), some (az_i (((g : Nat) : Int))), some (az_i (((b : Nat) : Int))), some (az_i (zG S g 0)), some (az_i (zac S b (zG S g 0))), none, none, none]) (st2 := [az_i (-1), az_i (zac S b (zG S g 0))]) (s2 := s) rfl ?_
        refine az_if2 92 81 rfl (by decide) (by first | assumption | exact ⟨by omega, by omega⟩) ⟨by decide, by decide⟩ (fun h4 => ?_) (fun h4 => ?_)
        · have h4 : ¬ zac S b (zG S g 0) = -1 := h4
          refine az_to 3 (pc2 := 97) (lv2 := [some (az_r 4), some (az_i (((g : Nat) : Int))), some (az_i (((b : Nat) : Int))), some (az_i (zG S g 0)), some (az_i (zac S b (zG S g 0))), none, none, none]) (st2 := [az_i (((b : Nat) : Int)), az_r 1]) (s2 := s) rfl ?_
          refine az_clv (v := some (az_i (zdue S b))) (t := s) (m2 := am_m_X8_tollDue) (as := [az_r 1, az_i (((b : Nat) : Int))]) (rest := []) 100 rfl rfl ⟨rfl, rfl⟩ (by omega) (zs_X8_tollDue (s := s) (b := b) (by omega) hR hI hh (by omega)) ?_
          refine az_to 0 (pc2 := 100) (lv2 := [some (az_r 4), some (az_i (((g : Nat) : Int))), some (az_i (((b : Nat) : Int))), some (az_i (zG S g 0)), some (az_i (zac S b (zG S g 0))), none, none, none]) (st2 := [az_i (zdue S b)]) (s2 := s) rfl ?_
          refine az_to 6 (pc2 := 110) (lv2 := [some (az_r 4), some (az_i (((g : Nat) : Int))), some (az_i (((b : Nat) : Int))), some (az_i (zG S g 0)), some (az_i (zac S b (zG S g 0))), some (az_i (zdue S b)), none, none]) (st2 := [az_i (1), az_i (((g : Nat) : Int)), az_r 1, az_i (zdue S b)]) (s2 := s) rfl ?_
          refine az_clv (v := some (az_i (zG S g 1))) (t := s) (m2 := am_m_X8_ofGoat) (as := [az_r 1, az_i (((g : Nat) : Int)), az_i (1)]) (rest := [az_i (zdue S b)]) 113 rfl rfl ⟨rfl, rfl⟩ (by omega) (zs_X8_ofGoat (s := s) (g := g) (k := 1) (by omega) hR (by omega) (by omega)) ?_
          refine az_to 0 (pc2 := 113) (lv2 := [some (az_r 4), some (az_i (((g : Nat) : Int))), some (az_i (((b : Nat) : Int))), some (az_i (zG S g 0)), some (az_i (zac S b (zG S g 0))), some (az_i (zdue S b)), none, none]) (st2 := [az_i (zG S g 1), az_i (zdue S b)]) (s2 := s) rfl ?_
          refine az_to 3 (pc2 := 118) (lv2 := [some (az_r 4), some (az_i (((g : Nat) : Int))), some (az_i (((b : Nat) : Int))), some (az_i (zG S g 0)), some (az_i (zac S b (zG S g 0))), some (az_i (zdue S b)), some (az_i ((zdue S b - zG S g 1))), none]) (st2 := [az_i ((zdue S b - zG S g 1))]) (s2 := s) rfl ?_
          refine az_ifc 133 121 rfl (by decide) (by first | assumption | exact ⟨by omega, by omega⟩) (fun h5 => ?_) (fun h5 => ?_)
          · have h5 : (zdue S b - zG S g 1) ≤ 0 := h5
            refine az_to 4 (pc2 := 138) (lv2 := [some (az_r 4), some (az_i (((g : Nat) : Int))), some (az_i (((b : Nat) : Int))), some (az_i (zG S g 0)), some (az_i (zac S b (zG S g 0))), some (az_i (zdue S b)), some (az_i ((zdue S b - zG S g 1))), none]) (st2 := [az_i (zdue S b), az_i (((b : Nat) : Int)), az_i (((g : Nat) : Int)), az_r 4]) (s2 := s) rfl ?_
            refine az_cl (m2 := am_m_X0_payToll) (as := [az_r 4, az_i (((g : Nat) : Int)), az_i (((b : Nat) : Int)), az_i (zdue S b)]) (rest := []) 141 rfl rfl ⟨rfl, rfl⟩ (by omega) (zs_X0_payToll (s := s) (g := g) (b := b) (by omega) hR hI hh (by omega) (by omega) (by omega)) (fun v1 t1 q1 => ?_) (fun E t1 q1 => by cases q1.1)
            obtain ⟨q1a, hR1, hF1⟩ := q1
            cases q1a
            obtain ⟨S1, hS1⟩ : ∃ X, X = zpS S g b := ⟨_, rfl⟩
            rw [← hS1] at hR1
            have hI1 : zInv S1 (h + 1) := by rw [hS1]; exact zpS_I hI hh (by omega) (by omega) (by omega)
            have hk1 : ztk S1 b = ztk S b := by rw [hS1]; exact ztk_zpS hI hh (by omega) (by omega)
            have hn1 : zn S1 0 = zn S 0 ∧ zn S1 1 = zn S 1 ∧ zn S1 2 = zn S 2 := by rw [hS1]; exact zpS_n hI (by omega) (by omega)
            refine az_to 0 (pc2 := 141) (lv2 := [some (az_r 4), some (az_i (((g : Nat) : Int))), some (az_i (((b : Nat) : Int))), some (az_i (zG S g 0)), some (az_i (zac S b (zG S g 0))), some (az_i (zdue S b)), some (az_i ((zdue S b - zG S g 1))), none]) (st2 := []) (s2 := t1) rfl ?_
            refine az_to 3 (pc2 := 146) (lv2 := [some (az_r 4), some (az_i (((g : Nat) : Int))), some (az_i (((b : Nat) : Int))), some (az_i (zG S g 0)), some (az_i (zac S b (zG S g 0))), some (az_i (zdue S b)), some (az_i ((zdue S b - zG S g 1))), none]) (st2 := [az_i (((b : Nat) : Int)), az_r 1]) (s2 := t1) rfl ?_
            refine az_clv (v := some (az_i (ztk S1 b))) (t := t1) (m2 := am_m_X8_hoursOver) (as := [az_r 1, az_i (((b : Nat) : Int))]) (rest := []) 149 rfl rfl ⟨rfl, rfl⟩ (by omega) (zs_X8_hoursOver (s := t1) (b := b) (by omega) hR1 hI1 hh9 (by omega)) ?_
            refine az_to 0 (pc2 := 149) (lv2 := [some (az_r 4), some (az_i (((g : Nat) : Int))), some (az_i (((b : Nat) : Int))), some (az_i (zG S g 0)), some (az_i (zac S b (zG S g 0))), some (az_i (zdue S b)), some (az_i ((zdue S b - zG S g 1))), none]) (st2 := [az_i (ztk S1 b)]) (s2 := t1) rfl ?_
            refine az_to 0 (pc2 := 149) (lv2 := [some (az_r 4), some (az_i (((g : Nat) : Int))), some (az_i (((b : Nat) : Int))), some (az_i (zG S g 0)), some (az_i (zac S b (zG S g 0))), some (az_i (zdue S b)), some (az_i ((zdue S b - zG S g 1))), none]) (st2 := [az_i (ztk S b)]) (s2 := t1) (by rw [hk1]; rfl) ?_
            refine az_to 5 (pc2 := 156) (lv2 := [some (az_r 4), some (az_i (((g : Nat) : Int))), some (az_i (((b : Nat) : Int))), some (az_i (zG S g 0)), some (az_i (zac S b (zG S g 0))), some (az_i (zdue S b)), some (az_i ((zdue S b - zG S g 1))), some (az_i (ztk S b))]) (st2 := [az_i (ztk S b), az_i (3), az_i (((g : Nat) : Int)), az_r 4]) (s2 := t1) rfl ?_
            refine az_clv (v := none) (t := am_up t1 3 (159 + 5 * g + 3) (zG S1 g 3 + (ztk S b))) (m2 := am_m_X0_addToGoat) (as := [az_r 4, az_i (((g : Nat) : Int)), az_i (3), az_i (ztk S b)]) (rest := []) 159 rfl rfl ⟨rfl, rfl⟩ (by omega) (zs_X0_addToGoat (s := t1) (g := g) (k := 3) (v := (ztk S b)) (by omega) hR1 (by omega) (by omega)) ?_
            refine az_to 0 (pc2 := 159) (lv2 := [some (az_r 4), some (az_i (((g : Nat) : Int))), some (az_i (((b : Nat) : Int))), some (az_i (zG S g 0)), some (az_i (zac S b (zG S g 0))), some (az_i (zdue S b)), some (az_i ((zdue S b - zG S g 1))), some (az_i (ztk S b))]) (st2 := []) (s2 := am_up t1 3 (159 + 5 * g + 3) (zG S1 g 3 + (ztk S b))) rfl ?_
            obtain ⟨S2, hS2⟩ : ∃ X, X = zup S1 (150 + 5 * g + 3) (zG S1 g 3 + (ztk S b)) := ⟨_, rfl⟩
            have hRS2 : zRel ((am_up t1 3 (159 + 5 * g + 3) (zG S1 g 3 + (ztk S b))) 3) S2 := by
              rw [hS2]
              exact zRel_G hR1 ⟨by omega, by omega⟩ (by omega) (by omega : 3 < 5) _
            have hnS2 : zn S2 0 = zn S 0 ∧ zn S2 1 = zn S 1 := by rw [hS2, zn_up (by omega), zn_up (by omega)]; exact ⟨by omega, by omega⟩
            refine az_to 4 (pc2 := 163) (lv2 := [some (az_r 4), some (az_i (((g : Nat) : Int))), some (az_i (((b : Nat) : Int))), some (az_i (zG S g 0)), some (az_i (zac S b (zG S g 0))), some (az_i (zdue S b)), some (az_i ((zdue S b - zG S g 1))), some (az_i (ztk S b))]) (st2 := [az_i (1), az_i (4), az_i (((g : Nat) : Int)), az_r 4]) (s2 := am_up t1 3 (159 + 5 * g + 3) (zG S1 g 3 + (ztk S b))) rfl ?_
            refine az_clv (v := none) (t := am_up (am_up t1 3 (159 + 5 * g + 3) (zG S1 g 3 + (ztk S b))) 3 (159 + 5 * g + 4) (zG S2 g 4 + 1)) (m2 := am_m_X0_addToGoat) (as := [az_r 4, az_i (((g : Nat) : Int)), az_i (4), az_i (1)]) (rest := []) 166 rfl rfl ⟨rfl, rfl⟩ (by omega) (zs_X0_addToGoat (s := am_up t1 3 (159 + 5 * g + 3) (zG S1 g 3 + (ztk S b))) (g := g) (k := 4) (v := 1) (by omega) hRS2 (by omega) (by omega)) ?_
            refine az_to 0 (pc2 := 166) (lv2 := [some (az_r 4), some (az_i (((g : Nat) : Int))), some (az_i (((b : Nat) : Int))), some (az_i (zG S g 0)), some (az_i (zac S b (zG S g 0))), some (az_i (zdue S b)), some (az_i ((zdue S b - zG S g 1))), some (az_i (ztk S b))]) (st2 := []) (s2 := am_up (am_up t1 3 (159 + 5 * g + 3) (zG S1 g 3 + (ztk S b))) 3 (159 + 5 * g + 4) (zG S2 g 4 + 1)) rfl ?_
            obtain ⟨S3, hS3⟩ : ∃ X, X = zup S2 (150 + 5 * g + 4) (zG S2 g 4 + 1) := ⟨_, rfl⟩
            have hRS3 : zRel ((am_up (am_up t1 3 (159 + 5 * g + 3) (zG S1 g 3 + (ztk S b))) 3 (159 + 5 * g + 4) (zG S2 g 4 + 1)) 3) S3 := by
              rw [hS3]
              exact zRel_G hRS2 ⟨by omega, by omega⟩ (by omega) (by omega : 4 < 5) _
            have hnS3 : zn S3 0 = zn S 0 ∧ zn S3 1 = zn S 1 := by rw [hS3, zn_up (by omega), zn_up (by omega)]; exact ⟨by omega, by omega⟩
            refine az_to 4 (pc2 := 171) (lv2 := [some (az_r 4), some (az_i (((g : Nat) : Int))), some (az_i (((b : Nat) : Int))), some (az_i (zG S g 0)), some (az_i (zac S b (zG S g 0))), some (az_i (zdue S b)), some (az_i ((zdue S b - zG S g 1))), some (az_i (ztk S b))]) (st2 := [az_i (1), az_i (7), az_i (((b : Nat) : Int)), az_r 4]) (s2 := am_up (am_up t1 3 (159 + 5 * g + 3) (zG S1 g 3 + (ztk S b))) 3 (159 + 5 * g + 4) (zG S2 g 4 + 1)) rfl ?_
            refine az_clv (v := none) (t := am_up (am_up (am_up t1 3 (159 + 5 * g + 3) (zG S1 g 3 + (ztk S b))) 3 (159 + 5 * g + 4) (zG S2 g 4 + 1)) 3 (5 + 13 * b + 7) (zB S3 b 6 + 1)) (m2 := am_m_X0_addToBridge) (as := [az_r 4, az_i (((b : Nat) : Int)), az_i (7), az_i (1)]) (rest := []) 174 rfl rfl ⟨rfl, rfl⟩ (by omega) (zs_X0_addToBridge (s := am_up (am_up t1 3 (159 + 5 * g + 3) (zG S1 g 3 + (ztk S b))) 3 (159 + 5 * g + 4) (zG S2 g 4 + 1)) (b := b) (v := 1) (by omega) hRS3 (by omega) (by omega)) ?_
            refine az_to 0 (pc2 := 174) (lv2 := [some (az_r 4), some (az_i (((g : Nat) : Int))), some (az_i (((b : Nat) : Int))), some (az_i (zG S g 0)), some (az_i (zac S b (zG S g 0))), some (az_i (zdue S b)), some (az_i ((zdue S b - zG S g 1))), some (az_i (ztk S b))]) (st2 := []) (s2 := am_up (am_up (am_up t1 3 (159 + 5 * g + 3) (zG S1 g 3 + (ztk S b))) 3 (159 + 5 * g + 4) (zG S2 g 4 + 1)) 3 (5 + 13 * b + 7) (zB S3 b 6 + 1)) rfl ?_
            obtain ⟨S4, hS4⟩ : ∃ X, X = zup S3 (6 + 12 * b + 6) (zB S3 b 6 + 1) := ⟨_, rfl⟩
            have hRS4 : zRel ((am_up (am_up (am_up t1 3 (159 + 5 * g + 3) (zG S1 g 3 + (ztk S b))) 3 (159 + 5 * g + 4) (zG S2 g 4 + 1)) 3 (5 + 13 * b + 7) (zB S3 b 6 + 1)) 3) S4 := by
              rw [hS4]
              exact zRel_B (k := 7) (j := 6) hRS3 ⟨by omega, by omega⟩ (by omega) ⟨by omega, by omega⟩ rfl _
            have hnS4 : zn S4 0 = zn S 0 ∧ zn S4 1 = zn S 1 := by rw [hS4, zn_up (by omega), zn_up (by omega)]; exact ⟨by omega, by omega⟩
            refine az_to 5 (pc2 := 182) (lv2 := [some (az_r 4), some (az_i (((g : Nat) : Int))), some (az_i (((b : Nat) : Int))), some (az_i (zG S g 0)), some (az_i (zac S b (zG S g 0))), some (az_i (zdue S b)), some (az_i ((zdue S b - zG S g 1))), some (az_i (ztk S b))]) (st2 := [az_i (zac S b (zG S g 0)), az_i (0), az_i (((g : Nat) : Int)), az_r 1]) (s2 := am_up (am_up (am_up t1 3 (159 + 5 * g + 3) (zG S1 g 3 + (ztk S b))) 3 (159 + 5 * g + 4) (zG S2 g 4 + 1)) 3 (5 + 13 * b + 7) (zB S3 b 6 + 1)) rfl ?_
            refine az_clv (v := none) (t := am_up (am_up (am_up (am_up t1 3 (159 + 5 * g + 3) (zG S1 g 3 + (ztk S b))) 3 (159 + 5 * g + 4) (zG S2 g 4 + 1)) 3 (5 + 13 * b + 7) (zB S3 b 6 + 1)) 3 (159 + 5 * g + 0) (zac S b (zG S g 0))) (m2 := am_m_X8_setGoat) (as := [az_r 1, az_i (((g : Nat) : Int)), az_i (0), az_i (zac S b (zG S g 0))]) (rest := []) 185 rfl rfl ⟨rfl, rfl⟩ (by omega) (zs_X8_setGoat (s := am_up (am_up (am_up t1 3 (159 + 5 * g + 3) (zG S1 g 3 + (ztk S b))) 3 (159 + 5 * g + 4) (zG S2 g 4 + 1)) 3 (5 + 13 * b + 7) (zB S3 b 6 + 1)) (g := g) (k := 0) (v := (zac S b (zG S g 0))) (by omega) (by omega) (by omega)) ?_
            refine az_to 0 (pc2 := 185) (lv2 := [some (az_r 4), some (az_i (((g : Nat) : Int))), some (az_i (((b : Nat) : Int))), some (az_i (zG S g 0)), some (az_i (zac S b (zG S g 0))), some (az_i (zdue S b)), some (az_i ((zdue S b - zG S g 1))), some (az_i (ztk S b))]) (st2 := []) (s2 := am_up (am_up (am_up (am_up t1 3 (159 + 5 * g + 3) (zG S1 g 3 + (ztk S b))) 3 (159 + 5 * g + 4) (zG S2 g 4 + 1)) 3 (5 + 13 * b + 7) (zB S3 b 6 + 1)) 3 (159 + 5 * g + 0) (zac S b (zG S g 0))) rfl ?_
            obtain ⟨S5, hS5⟩ : ∃ X, X = zup S4 (150 + 5 * g + 0) ((zac S b (zG S g 0))) := ⟨_, rfl⟩
            have hRS5 : zRel ((am_up (am_up (am_up (am_up t1 3 (159 + 5 * g + 3) (zG S1 g 3 + (ztk S b))) 3 (159 + 5 * g + 4) (zG S2 g 4 + 1)) 3 (5 + 13 * b + 7) (zB S3 b 6 + 1)) 3 (159 + 5 * g + 0) (zac S b (zG S g 0))) 3) S5 := by
              rw [hS5]
              exact zRel_G hRS4 ⟨by omega, by omega⟩ (by omega) (by omega : 0 < 5) _
            have hnS5 : zn S5 0 = zn S 0 ∧ zn S5 1 = zn S 1 := by rw [hS5, zn_up (by omega), zn_up (by omega)]; exact ⟨by omega, by omega⟩
            refine az_to 3 (pc2 := 191) (lv2 := [some (az_r 4), some (az_i (((g : Nat) : Int))), some (az_i (((b : Nat) : Int))), some (az_i (zG S g 0)), some (az_i (zac S b (zG S g 0))), some (az_i (zdue S b)), some (az_i ((zdue S b - zG S g 1))), some (az_i (ztk S b))]) (st2 := [az_i (ztk S b), az_r 5]) (s2 := am_up (am_up (am_up (am_up t1 3 (159 + 5 * g + 3) (zG S1 g 3 + (ztk S b))) 3 (159 + 5 * g + 4) (zG S2 g 4 + 1)) 3 (5 + 13 * b + 7) (zB S3 b 6 + 1)) 3 (159 + 5 * g + 0) (zac S b (zG S g 0))) rfl ?_
            refine az_clv (v := some (az_r 5)) (t := am_up (am_up (am_up (am_up (am_up (am_up t1 3 (159 + 5 * g + 3) (zG S1 g 3 + (ztk S b))) 3 (159 + 5 * g + 4) (zG S2 g 4 + 1)) 3 (5 + 13 * b + 7) (zB S3 b 6 + 1)) 3 (159 + 5 * g + 0) (zac S b (zG S g 0))) 5 0 (0)) 5 1 ((ztk S b))) (m2 := am_m_X6_done) (as := [az_r 5, az_i (ztk S b)]) (rest := []) 194 rfl rfl ⟨rfl, rfl⟩ (by omega) (zs_X6_done (s := am_up (am_up (am_up (am_up t1 3 (159 + 5 * g + 3) (zG S1 g 3 + (ztk S b))) 3 (159 + 5 * g + 4) (zG S2 g 4 + 1)) 3 (5 + 13 * b + 7) (zB S3 b 6 + 1)) 3 (159 + 5 * g + 0) (zac S b (zG S g 0))) (v := (ztk S b)) (by omega) ) ?_
            refine az_to 0 (pc2 := 194) (lv2 := [some (az_r 4), some (az_i (((g : Nat) : Int))), some (az_i (((b : Nat) : Int))), some (az_i (zG S g 0)), some (az_i (zac S b (zG S g 0))), some (az_i (zdue S b)), some (az_i ((zdue S b - zG S g 1))), some (az_i (ztk S b))]) (st2 := [az_r 5]) (s2 := am_up (am_up (am_up (am_up (am_up (am_up t1 3 (159 + 5 * g + 3) (zG S1 g 3 + (ztk S b))) 3 (159 + 5 * g + 4) (zG S2 g 4 + 1)) 3 (5 + 13 * b + 7) (zB S3 b 6 + 1)) 3 (159 + 5 * g + 0) (zac S b (zG S g 0))) 5 0 (0)) 5 1 ((ztk S b))) rfl ?_
            refine az_retA rfl rfl ?_
            have e : zo_cross S ((g : Nat) : Int) ((b : Nat) : Int) = (0, (ztk S b), 0, zcS S g b) := by
              simp only [zo_cross, Int.toNat_natCast]
              rw [if_neg (by omega), if_neg (by omega), if_neg (by omega), if_neg (by omega)]
            rw [e]
            exact ⟨rfl, ⟨(by
                have q := zRel_4 hRS5 ⟨by omega, by omega⟩ (S 4 + 1)
                have hat := zat_r hI b
                have e3 : zG S1 g 3 = zG S g 3 := by rw [hS1]; exact zpS_o (by omega) (by omega) (by omega)
                have e4 : zG S2 g 4 = zG S g 4 := by rw [hS2]; unfold zG; rw [zup_ne _ _ (by omega), hS1]; exact zpS_o (by omega) (by omega) (by omega)
                have e6 : zB S3 b 6 = zB S b 6 := by rw [hS3, hS2]; unfold zB; rw [zup_ne _ _ (by omega), zup_ne _ _ (by omega), hS1]; exact zpS_o (by omega) (by omega) (by omega)
                have e5 : zup S5 4 (S 4 + 1) = zcS S g b := by
                  rw [hS5, hS4, e6, hS3, e4, hS2, e3, hS1, hza.2.1 (by assumption)]
                  unfold zcS
                  rw [zup_comm (i := 6 + 12 * b + 6) (j := 150 + 5 * g + 0) _ _ (by omega), zup_comm (i := 150 + 5 * g + 4) (j := 150 + 5 * g + 0) _ _ (by omega), zup_comm (i := 150 + 5 * g + 3) (j := 150 + 5 * g + 0) _ _ (by omega)]
                rw [← e5]
                exact q), rfl, fun _ => rfl, fun h => absurd (show (0 : Nat) = 3 from h) (by decide), (fun i h3 h5 => by
                funext j
                have q9 := congrFun (hF1 i h3) j
                simp only [am_up, if_neg h3, if_neg h5] at q9 ⊢
                exact q9)⟩⟩
          · have h5 : ¬ ((zdue S b - zG S g 1) ≤ 0) := h5
            refine az_to 4 (pc2 := 129) (lv2 := [some (az_r 4), some (az_i (((g : Nat) : Int))), some (az_i (((b : Nat) : Int))), some (az_i (zG S g 0)), some (az_i (zac S b (zG S g 0))), some (az_i (zdue S b)), some (az_i ((zdue S b - zG S g 1))), none]) (st2 := [az_i ((zdue S b - zG S g 1)), az_i (8), az_r 5]) (s2 := s) rfl ?_
            refine az_clv (v := some (az_r 5)) (t := am_up (am_up (am_up s 5 0 (3)) 5 2 (8)) 5 3 (((zdue S b - zG S g 1)))) (m2 := am_m_X6_refused) (as := [az_r 5, az_i (8), az_i ((zdue S b - zG S g 1))]) (rest := []) 132 rfl rfl ⟨rfl, rfl⟩ (by omega) (zs_X6_refused (s := s) (r := 8) (w := ((zdue S b - zG S g 1))) (by omega) ) ?_
            refine az_to 0 (pc2 := 132) (lv2 := [some (az_r 4), some (az_i (((g : Nat) : Int))), some (az_i (((b : Nat) : Int))), some (az_i (zG S g 0)), some (az_i (zac S b (zG S g 0))), some (az_i (zdue S b)), some (az_i ((zdue S b - zG S g 1))), none]) (st2 := [az_r 5]) (s2 := am_up (am_up (am_up s 5 0 (3)) 5 2 (8)) 5 3 (((zdue S b - zG S g 1)))) rfl ?_
            refine az_retA rfl rfl ?_
            have e : zo_cross S ((g : Nat) : Int) ((b : Nat) : Int) = (3, 8, ((zdue S b - zG S g 1)), S) := by
              simp only [zo_cross, Int.toNat_natCast]
              first | (rw [if_pos (by omega)]) | (rw [if_neg (by omega), if_pos (by omega)]) | (rw [if_neg (by omega), if_neg (by omega), if_pos (by omega)]) | (rw [if_neg (by omega), if_neg (by omega), if_neg (by omega), if_pos (by omega)]) | (rw [if_neg (by omega), if_neg (by omega), if_neg (by omega), if_neg (by omega), if_pos (by omega)]) | (rw [if_neg (by omega), if_neg (by omega), if_neg (by omega), if_neg (by omega)]) | (rw [if_neg (by omega), if_neg (by omega), if_neg (by omega)]) | (rw [if_neg (by omega), if_neg (by omega)]) | (rw [if_neg (by omega)])
            rw [e]
            exact ⟨rfl, ⟨hR, rfl, fun h => absurd (show (3 : Nat) = 0 from h) (by decide), fun _ => ⟨rfl, rfl⟩, (fun i h3 h5 => by funext j; simp only [am_up, if_neg h3, if_neg h5])⟩⟩
        · have h4 : zac S b (zG S g 0) = -1 := Decidable.not_not.mp h4
          refine az_to 4 (pc2 := 88) (lv2 := [some (az_r 4), some (az_i (((g : Nat) : Int))), some (az_i (((b : Nat) : Int))), some (az_i (zG S g 0)), some (az_i (zac S b (zG S g 0))), none, none, none]) (st2 := [az_i (zG S g 0), az_i (7), az_r 5]) (s2 := s) rfl ?_
          refine az_clv (v := some (az_r 5)) (t := am_up (am_up (am_up s 5 0 (3)) 5 2 (7)) 5 3 ((zG S g 0))) (m2 := am_m_X6_refused) (as := [az_r 5, az_i (7), az_i (zG S g 0)]) (rest := []) 91 rfl rfl ⟨rfl, rfl⟩ (by omega) (zs_X6_refused (s := s) (r := 7) (w := (zG S g 0)) (by omega) ) ?_
          refine az_to 0 (pc2 := 91) (lv2 := [some (az_r 4), some (az_i (((g : Nat) : Int))), some (az_i (((b : Nat) : Int))), some (az_i (zG S g 0)), some (az_i (zac S b (zG S g 0))), none, none, none]) (st2 := [az_r 5]) (s2 := am_up (am_up (am_up s 5 0 (3)) 5 2 (7)) 5 3 ((zG S g 0))) rfl ?_
          refine az_retA rfl rfl ?_
          have e : zo_cross S ((g : Nat) : Int) ((b : Nat) : Int) = (3, 7, (zG S g 0), S) := by
            simp only [zo_cross, Int.toNat_natCast]
            first | (rw [if_pos (by omega)]) | (rw [if_neg (by omega), if_pos (by omega)]) | (rw [if_neg (by omega), if_neg (by omega), if_pos (by omega)]) | (rw [if_neg (by omega), if_neg (by omega), if_neg (by omega), if_pos (by omega)]) | (rw [if_neg (by omega), if_neg (by omega), if_neg (by omega), if_neg (by omega), if_pos (by omega)]) | (rw [if_neg (by omega), if_neg (by omega), if_neg (by omega), if_neg (by omega)]) | (rw [if_neg (by omega), if_neg (by omega), if_neg (by omega)]) | (rw [if_neg (by omega), if_neg (by omega)]) | (rw [if_neg (by omega)])
          rw [e]
          exact ⟨rfl, ⟨hR, rfl, fun h => absurd (show (3 : Nat) = 0 from h) (by decide), fun _ => ⟨rfl, rfl⟩, (fun i h3 h5 => by funext j; simp only [am_up, if_neg h3, if_neg h5])⟩⟩
      · have h3 : zG S g 2 = 1 := Decidable.not_not.mp h3
        refine az_to 4 (pc2 := 50) (lv2 := [some (az_r 4), some (az_i (((g : Nat) : Int))), some (az_i (((b : Nat) : Int))), none, none, none, none, none]) (st2 := [az_i (((g : Nat) : Int)), az_i (6), az_r 5]) (s2 := s) rfl ?_
        refine az_clv (v := some (az_r 5)) (t := am_up (am_up (am_up s 5 0 (3)) 5 2 (6)) 5 3 ((((g : Nat) : Int)))) (m2 := am_m_X6_refused) (as := [az_r 5, az_i (6), az_i (((g : Nat) : Int))]) (rest := []) 53 rfl rfl ⟨rfl, rfl⟩ (by omega) (zs_X6_refused (s := s) (r := 6) (w := (((g : Nat) : Int))) (by omega) ) ?_
        refine az_to 0 (pc2 := 53) (lv2 := [some (az_r 4), some (az_i (((g : Nat) : Int))), some (az_i (((b : Nat) : Int))), none, none, none, none, none]) (st2 := [az_r 5]) (s2 := am_up (am_up (am_up s 5 0 (3)) 5 2 (6)) 5 3 ((((g : Nat) : Int)))) rfl ?_
        refine az_retA rfl rfl ?_
        have e : zo_cross S ((g : Nat) : Int) ((b : Nat) : Int) = (3, 6, (((g : Nat) : Int)), S) := by
          simp only [zo_cross, Int.toNat_natCast]
          first | (rw [if_pos (by omega)]) | (rw [if_neg (by omega), if_pos (by omega)]) | (rw [if_neg (by omega), if_neg (by omega), if_pos (by omega)]) | (rw [if_neg (by omega), if_neg (by omega), if_neg (by omega), if_pos (by omega)]) | (rw [if_neg (by omega), if_neg (by omega), if_neg (by omega), if_neg (by omega), if_pos (by omega)]) | (rw [if_neg (by omega), if_neg (by omega), if_neg (by omega), if_neg (by omega)]) | (rw [if_neg (by omega), if_neg (by omega), if_neg (by omega)]) | (rw [if_neg (by omega), if_neg (by omega)]) | (rw [if_neg (by omega)])
        rw [e]
        exact ⟨rfl, ⟨hR, rfl, fun h => absurd (show (3 : Nat) = 0 from h) (by decide), fun _ => ⟨rfl, rfl⟩, (fun i h3 h5 => by funext j; simp only [am_up, if_neg h3, if_neg h5])⟩⟩
    · have h2 : ¬ (0 ≤ zb ∧ zb < ((zn S 0 : Nat) : Int)) := h2
      refine az_to 2 (pc2 := 26) (lv2 := [some (az_r 4), some (az_i (((g : Nat) : Int))), some (az_i (zb)), none, none, none, none, none]) (st2 := [az_r 5]) (s2 := s) rfl ?_
      refine az_clv (v := some (az_r 5)) (t := am_up s 5 0 (1)) (m2 := am_m_X6_noSuch) (as := [az_r 5]) (rest := []) 29 rfl rfl ⟨rfl, rfl⟩ (by omega) (zs_X6_noSuch (s := s)  (by omega) ) ?_
      refine az_to 0 (pc2 := 29) (lv2 := [some (az_r 4), some (az_i (((g : Nat) : Int))), some (az_i (zb)), none, none, none, none, none]) (st2 := [az_r 5]) (s2 := am_up s 5 0 (1)) rfl ?_
      refine az_retA rfl rfl ?_
      have e : zo_cross S ((g : Nat) : Int) zb = (1, 0, 0, S) := by
        simp only [zo_cross, Int.toNat_natCast]
        first | (rw [if_pos (by omega)]) | (rw [if_neg (by omega), if_pos (by omega)]) | (rw [if_neg (by omega), if_neg (by omega), if_pos (by omega)]) | (rw [if_neg (by omega), if_neg (by omega), if_neg (by omega), if_pos (by omega)]) | (rw [if_neg (by omega), if_neg (by omega), if_neg (by omega), if_neg (by omega), if_pos (by omega)]) | (rw [if_neg (by omega), if_neg (by omega), if_neg (by omega), if_neg (by omega)]) | (rw [if_neg (by omega), if_neg (by omega), if_neg (by omega)]) | (rw [if_neg (by omega), if_neg (by omega)]) | (rw [if_neg (by omega)])
      rw [e]
      exact ⟨rfl, ⟨hR, rfl, fun h => absurd (show (1 : Nat) = 0 from h) (by decide), fun h => absurd (show (1 : Nat) = 3 from h) (by decide), (fun i h3 h5 => by funext j; simp only [am_up, if_neg h3, if_neg h5])⟩⟩
set_option maxRecDepth 100000 in
set_option maxHeartbeats 800000 in
theorem zs_X0_disputeToll {d : Nat} {s : az_S} (hd : 4 ≤ d) {S : zR} {h : Nat} (hR : zRel (s 3) S) (hI : zInv S h) (hh : h ≤ 10000) {zg : Int} {zb : Int} (h_zg : az_in zg) (h_zb : az_in zb) : az_R d am_m_X0_disputeToll 0 (az_ini (am_mL am_m_X0_disputeToll) [az_r 4, az_i (zg), az_i (zb)]) [] (s) (zCq s (zo_dispute S zg zb)) := by
  have hz := zI_h hI hh
  refine az_to 0 (pc2 := 0) (lv2 := [some (az_r 4), some (az_i (zg)), some (az_i (zb))]) (st2 := []) (s2 := s) rfl ?_
  refine az_to 3 (pc2 := 5) (lv2 := [some (az_r 4), some (az_i (zg)), some (az_i (zb))]) (st2 := [az_i (zg), az_r 1]) (s2 := s) rfl ?_
  refine az_clv (v := some (az_i (az_b (0 ≤ zg ∧ zg < ((zn S 2 : Nat) : Int))))) (t := s) (m2 := am_m_X8_isGoat) (as := [az_r 1, az_i (zg)]) (rest := []) 8 rfl rfl ⟨rfl, rfl⟩ (by omega) (zs_X8_isGoat (s := s) (z := zg) (by omega) hR hI hh (by first | assumption | exact ⟨by omega, by omega⟩)) ?_
  refine az_to 0 (pc2 := 8) (lv2 := [some (az_r 4), some (az_i (zg)), some (az_i (zb))]) (st2 := [az_i (az_b (0 ≤ zg ∧ zg < ((zn S 2 : Nat) : Int)))]) (s2 := s) rfl ?_
  refine az_ifbe 22 11 rfl (by decide) (fun h1 => ?_) (fun h1 => ?_)
  · have h1 : ¬ (0 ≤ zg ∧ zg < ((zn S 2 : Nat) : Int)) := h1
    refine az_to 2 (pc2 := 26) (lv2 := [some (az_r 4), some (az_i (zg)), some (az_i (zb))]) (st2 := [az_r 5]) (s2 := s) rfl ?_
    refine az_clv (v := some (az_r 5)) (t := am_up s 5 0 (1)) (m2 := am_m_X6_noSuch) (as := [az_r 5]) (rest := []) 29 rfl rfl ⟨rfl, rfl⟩ (by omega) (zs_X6_noSuch (s := s)  (by omega) ) ?_
    refine az_to 0 (pc2 := 29) (lv2 := [some (az_r 4), some (az_i (zg)), some (az_i (zb))]) (st2 := [az_r 5]) (s2 := am_up s 5 0 (1)) rfl ?_
    refine az_retA rfl rfl ?_
    have e : zo_dispute S zg zb = (1, 0, 0, S) := by
      simp only [zo_dispute, Int.toNat_natCast]
      first | (rw [if_pos (by omega)]) | (rw [if_neg (by omega), if_pos (by omega)]) | (rw [if_neg (by omega), if_neg (by omega), if_pos (by omega)]) | (rw [if_neg (by omega), if_neg (by omega), if_neg (by omega), if_pos (by omega)]) | (rw [if_neg (by omega), if_neg (by omega), if_neg (by omega), if_neg (by omega), if_pos (by omega)]) | (rw [if_neg (by omega), if_neg (by omega), if_neg (by omega), if_neg (by omega)]) | (rw [if_neg (by omega), if_neg (by omega), if_neg (by omega)]) | (rw [if_neg (by omega), if_neg (by omega)]) | (rw [if_neg (by omega)])
    rw [e]
    exact ⟨rfl, ⟨hR, rfl, fun h => absurd (show (1 : Nat) = 0 from h) (by decide), fun h => absurd (show (1 : Nat) = 3 from h) (by decide), (fun i h3 h5 => by funext j; simp only [am_up, if_neg h3, if_neg h5])⟩⟩
  · have h1 : 0 ≤ zg ∧ zg < ((zn S 2 : Nat) : Int) := h1
    obtain ⟨g, rfl⟩ : ∃ n0 : Nat, zg = n0 := ⟨zg.toNat, by omega⟩
    have hzg := zI_g hI hh (g := g) (by omega)
    refine az_to 0 (pc2 := 11) (lv2 := [some (az_r 4), some (az_i (((g : Nat) : Int))), some (az_i (zb))]) (st2 := []) (s2 := s) (rfl) ?_
    refine az_to 3 (pc2 := 16) (lv2 := [some (az_r 4), some (az_i (((g : Nat) : Int))), some (az_i (zb))]) (st2 := [az_i (zb), az_r 1]) (s2 := s) rfl ?_
    refine az_clv (v := some (az_i (az_b (0 ≤ zb ∧ zb < ((zn S 0 : Nat) : Int))))) (t := s) (m2 := am_m_X8_isBridge) (as := [az_r 1, az_i (zb)]) (rest := []) 19 rfl rfl ⟨rfl, rfl⟩ (by omega) (zs_X8_isBridge (s := s) (z := zb) (by omega) hR hI hh (by first | assumption | exact ⟨by omega, by omega⟩)) ?_
    refine az_to 0 (pc2 := 19) (lv2 := [some (az_r 4), some (az_i (((g : Nat) : Int))), some (az_i (zb))]) (st2 := [az_i (az_b (0 ≤ zb ∧ zb < ((zn S 0 : Nat) : Int)))]) (s2 := s) rfl ?_
    refine az_ifbn 30 22 rfl (by decide) (fun h2 => ?_) (fun h2 => ?_)
    · have h2 : 0 ≤ zb ∧ zb < ((zn S 0 : Nat) : Int) := h2
      obtain ⟨b, rfl⟩ : ∃ n0 : Nat, zb = n0 := ⟨zb.toNat, by omega⟩
      have hzb := zI_b hI hh (b := b) (by omega)
      refine az_to 0 (pc2 := 30) (lv2 := [some (az_r 4), some (az_i (((g : Nat) : Int))), some (az_i (((b : Nat) : Int)))]) (st2 := []) (s2 := s) (rfl) ?_
      refine az_to 3 (pc2 := 35) (lv2 := [some (az_r 4), some (az_i (((g : Nat) : Int))), some (az_i (((b : Nat) : Int)))]) (st2 := [az_i (((b : Nat) : Int)), az_r 1]) (s2 := s) rfl ?_
      refine az_clv (v := some (az_i (az_b (0 ≤ zat S b)))) (t := s) (m2 := am_m_X8_isCounted) (as := [az_r 1, az_i (((b : Nat) : Int))]) (rest := []) 38 rfl rfl ⟨rfl, rfl⟩ (by omega) (zs_X8_isCounted (s := s) (b := b) (by omega) hR hI hh (by omega)) ?_
      refine az_to 0 (pc2 := 38) (lv2 := [some (az_r 4), some (az_i (((g : Nat) : Int))), some (az_i (((b : Nat) : Int)))]) (st2 := [az_i (az_b (0 ≤ zat S b))]) (s2 := s) rfl ?_
      refine az_ifbn 52 41 rfl (by decide) (fun h3 => ?_) (fun h3 => ?_)
      · have h3 : 0 ≤ zat S b := h3
        refine az_to 3 (pc2 := 57) (lv2 := [some (az_r 4), some (az_i (((g : Nat) : Int))), some (az_i (((b : Nat) : Int)))]) (st2 := [az_i (((b : Nat) : Int)), az_r 1]) (s2 := s) rfl ?_
        refine az_clv (v := some (az_i (az_b (0 ≤ zB S b 5)))) (t := s) (m2 := am_m_X8_isDisputed) (as := [az_r 1, az_i (((b : Nat) : Int))]) (rest := []) 60 rfl rfl ⟨rfl, rfl⟩ (by omega) (zs_X8_isDisputed (s := s) (b := b) (by omega) hR hI hh (by omega)) ?_
        refine az_to 0 (pc2 := 60) (lv2 := [some (az_r 4), some (az_i (((g : Nat) : Int))), some (az_i (((b : Nat) : Int)))]) (st2 := [az_i (az_b (0 ≤ zB S b 5))]) (s2 := s) rfl ?_
        refine az_ifbe 83 63 rfl (by decide) (fun h4 => ?_) (fun h4 => ?_)
        · have h4 : ¬ (0 ≤ zB S b 5) := h4
          refine az_to 5 (pc2 := 91) (lv2 := [some (az_r 4), some (az_i (((g : Nat) : Int))), some (az_i (((b : Nat) : Int)))]) (st2 := [az_i (((g : Nat) : Int)), az_i (6), az_i (((b : Nat) : Int)), az_r 1]) (s2 := s) rfl ?_
          refine az_clv (v := none) (t := am_up s 3 (5 + 13 * b + 6) (((g : Nat) : Int))) (m2 := am_m_X8_setBridge) (as := [az_r 1, az_i (((b : Nat) : Int)), az_i (6), az_i (((g : Nat) : Int))]) (rest := []) 94 rfl rfl ⟨rfl, rfl⟩ (by omega) (zs_X8_setBridge (s := s) (b := b) (k := 6) (v := (((g : Nat) : Int))) (by omega) (by omega) (by omega)) ?_
          refine az_to 0 (pc2 := 94) (lv2 := [some (az_r 4), some (az_i (((g : Nat) : Int))), some (az_i (((b : Nat) : Int)))]) (st2 := []) (s2 := am_up s 3 (5 + 13 * b + 6) (((g : Nat) : Int))) rfl ?_
          have hR2 : zRel ((am_up s 3 (5 + 13 * b + 6) (((g : Nat) : Int))) 3) (zup S (6 + 12 * b + 5) ((g : Nat) : Int)) := zRel_B (k := 6) (j := 5) hR ⟨hz.1.1, hz.1.2.1⟩ (by omega) ⟨by omega, by omega⟩ rfl _
          have hI2 : zInv (zup S (6 + 12 * b + 5) ((g : Nat) : Int)) h := zV_disp hI (Nat.le_refl h) (by omega) ⟨by omega, by omega, fun _ => by assumption⟩
          refine az_to 4 (pc2 := 102) (lv2 := [some (az_r 4), some (az_i (((g : Nat) : Int))), some (az_i (((b : Nat) : Int)))]) (st2 := [az_r 1, az_r 5]) (s2 := am_up s 3 (5 + 13 * b + 6) (((g : Nat) : Int))) rfl ?_
          refine az_clv (v := some (az_i (zcd (zup S (6 + 12 * b + 5) ((g : Nat) : Int))))) (t := am_up s 3 (5 + 13 * b + 6) (((g : Nat) : Int))) (m2 := am_m_X8_countDisputes) (as := [az_r 1]) (rest := [az_r 5]) 105 rfl rfl ⟨rfl, rfl⟩ (by omega) (zs_X8_countDisputes (s := am_up s 3 (5 + 13 * b + 6) (((g : Nat) : Int)))  (by omega) hR2 hI2 hh) ?_
          refine az_to 0 (pc2 := 105) (lv2 := [some (az_r 4), some (az_i (((g : Nat) : Int))), some (az_i (((b : Nat) : Int)))]) (st2 := [az_i (zcd (zup S (6 + 12 * b + 5) ((g : Nat) : Int))), az_r 5]) (s2 := am_up s 3 (5 + 13 * b + 6) (((g : Nat) : Int))) rfl ?_
          refine az_clv (v := some (az_r 5)) (t := am_up (am_up (am_up s 3 (5 + 13 * b + 6) (((g : Nat) : Int))) 5 0 (0)) 5 1 ((zcd (zup S (6 + 12 * b + 5) ((g : Nat) : Int))))) (m2 := am_m_X6_done) (as := [az_r 5, az_i (zcd (zup S (6 + 12 * b + 5) ((g : Nat) : Int)))]) (rest := []) 108 rfl rfl ⟨rfl, rfl⟩ (by omega) (zs_X6_done (s := am_up s 3 (5 + 13 * b + 6) (((g : Nat) : Int))) (v := (zcd (zup S (6 + 12 * b + 5) ((g : Nat) : Int)))) (by omega) ) ?_
          refine az_to 0 (pc2 := 108) (lv2 := [some (az_r 4), some (az_i (((g : Nat) : Int))), some (az_i (((b : Nat) : Int)))]) (st2 := [az_r 5]) (s2 := am_up (am_up (am_up s 3 (5 + 13 * b + 6) (((g : Nat) : Int))) 5 0 (0)) 5 1 ((zcd (zup S (6 + 12 * b + 5) ((g : Nat) : Int))))) rfl ?_
          refine az_retA rfl rfl ?_
          have e : zo_dispute S ((g : Nat) : Int) ((b : Nat) : Int) = (0, (zcd (zup S (6 + 12 * b + 5) ((g : Nat) : Int))), 0, zup S (6 + 12 * b + 5) ((g : Nat) : Int)) := by
            simp only [zo_dispute, Int.toNat_natCast]
            rw [if_neg (by omega), if_neg (by omega), if_neg (by omega)]
          rw [e]
          exact ⟨rfl, ⟨hR2, rfl, fun _ => rfl, fun h => absurd (show (0 : Nat) = 3 from h) (by decide), (fun i h3 h5 => by funext j; simp only [am_up, if_neg h3, if_neg h5])⟩⟩
        · have h4 : 0 ≤ zB S b 5 := h4
          refine az_to 7 (pc2 := 76) (lv2 := [some (az_r 4), some (az_i (((g : Nat) : Int))), some (az_i (((b : Nat) : Int)))]) (st2 := [az_i (6), az_i (((b : Nat) : Int)), az_r 1, az_i (10), az_r 5]) (s2 := s) rfl ?_
          refine az_clv (v := some (az_i (zB S b 5))) (t := s) (m2 := am_m_X8_ofBridge) (as := [az_r 1, az_i (((b : Nat) : Int)), az_i (6)]) (rest := [az_i (10), az_r 5]) 79 rfl rfl ⟨rfl, rfl⟩ (by omega) (zs_X8_ofBridge (s := s) (b := b) (k := 6) (by omega) hR (by omega) (by omega) (by omega)) ?_
          refine az_to 0 (pc2 := 79) (lv2 := [some (az_r 4), some (az_i (((g : Nat) : Int))), some (az_i (((b : Nat) : Int)))]) (st2 := [az_i (zB S b 5), az_i (10), az_r 5]) (s2 := s) rfl ?_
          refine az_clv (v := some (az_r 5)) (t := am_up (am_up (am_up s 5 0 (3)) 5 2 (10)) 5 3 ((zB S b 5))) (m2 := am_m_X6_refused) (as := [az_r 5, az_i (10), az_i (zB S b 5)]) (rest := []) 82 rfl rfl ⟨rfl, rfl⟩ (by omega) (zs_X6_refused (s := s) (r := 10) (w := (zB S b 5)) (by omega) ) ?_
          refine az_to 0 (pc2 := 82) (lv2 := [some (az_r 4), some (az_i (((g : Nat) : Int))), some (az_i (((b : Nat) : Int)))]) (st2 := [az_r 5]) (s2 := am_up (am_up (am_up s 5 0 (3)) 5 2 (10)) 5 3 ((zB S b 5))) rfl ?_
          refine az_retA rfl rfl ?_
          have e : zo_dispute S ((g : Nat) : Int) ((b : Nat) : Int) = (3, 10, (zB S b 5), S) := by
            simp only [zo_dispute, Int.toNat_natCast]
            first | (rw [if_pos (by omega)]) | (rw [if_neg (by omega), if_pos (by omega)]) | (rw [if_neg (by omega), if_neg (by omega), if_pos (by omega)]) | (rw [if_neg (by omega), if_neg (by omega), if_neg (by omega), if_pos (by omega)]) | (rw [if_neg (by omega), if_neg (by omega), if_neg (by omega), if_neg (by omega), if_pos (by omega)]) | (rw [if_neg (by omega), if_neg (by omega), if_neg (by omega), if_neg (by omega)]) | (rw [if_neg (by omega), if_neg (by omega), if_neg (by omega)]) | (rw [if_neg (by omega), if_neg (by omega)]) | (rw [if_neg (by omega)])
          rw [e]
          exact ⟨rfl, ⟨hR, rfl, fun h => absurd (show (3 : Nat) = 0 from h) (by decide), fun _ => ⟨rfl, rfl⟩, (fun i h3 h5 => by funext j; simp only [am_up, if_neg h3, if_neg h5])⟩⟩
      · have h3 : ¬ (0 ≤ zat S b) := h3
        refine az_to 4 (pc2 := 48) (lv2 := [some (az_r 4), some (az_i (((g : Nat) : Int))), some (az_i (((b : Nat) : Int)))]) (st2 := [az_i (((b : Nat) : Int)), az_i (9), az_r 5]) (s2 := s) rfl ?_
        refine az_clv (v := some (az_r 5)) (t := am_up (am_up (am_up s 5 0 (3)) 5 2 (9)) 5 3 ((((b : Nat) : Int)))) (m2 := am_m_X6_refused) (as := [az_r 5, az_i (9), az_i (((b : Nat) : Int))]) (rest := []) 51 rfl rfl ⟨rfl, rfl⟩ (by omega) (zs_X6_refused (s := s) (r := 9) (w := (((b : Nat) : Int))) (by omega) ) ?_
        refine az_to 0 (pc2 := 51) (lv2 := [some (az_r 4), some (az_i (((g : Nat) : Int))), some (az_i (((b : Nat) : Int)))]) (st2 := [az_r 5]) (s2 := am_up (am_up (am_up s 5 0 (3)) 5 2 (9)) 5 3 ((((b : Nat) : Int)))) rfl ?_
        refine az_retA rfl rfl ?_
        have e : zo_dispute S ((g : Nat) : Int) ((b : Nat) : Int) = (3, 9, (((b : Nat) : Int)), S) := by
          simp only [zo_dispute, Int.toNat_natCast]
          first | (rw [if_pos (by omega)]) | (rw [if_neg (by omega), if_pos (by omega)]) | (rw [if_neg (by omega), if_neg (by omega), if_pos (by omega)]) | (rw [if_neg (by omega), if_neg (by omega), if_neg (by omega), if_pos (by omega)]) | (rw [if_neg (by omega), if_neg (by omega), if_neg (by omega), if_neg (by omega), if_pos (by omega)]) | (rw [if_neg (by omega), if_neg (by omega), if_neg (by omega), if_neg (by omega)]) | (rw [if_neg (by omega), if_neg (by omega), if_neg (by omega)]) | (rw [if_neg (by omega), if_neg (by omega)]) | (rw [if_neg (by omega)])
        rw [e]
        exact ⟨rfl, ⟨hR, rfl, fun h => absurd (show (3 : Nat) = 0 from h) (by decide), fun _ => ⟨rfl, rfl⟩, (fun i h3 h5 => by funext j; simp only [am_up, if_neg h3, if_neg h5])⟩⟩
    · have h2 : ¬ (0 ≤ zb ∧ zb < ((zn S 0 : Nat) : Int)) := h2
      refine az_to 2 (pc2 := 26) (lv2 := [some (az_r 4), some (az_i (((g : Nat) : Int))), some (az_i (zb))]) (st2 := [az_r 5]) (s2 := s) rfl ?_
      refine az_clv (v := some (az_r 5)) (t := am_up s 5 0 (1)) (m2 := am_m_X6_noSuch) (as := [az_r 5]) (rest := []) 29 rfl rfl ⟨rfl, rfl⟩ (by omega) (zs_X6_noSuch (s := s)  (by omega) ) ?_
      refine az_to 0 (pc2 := 29) (lv2 := [some (az_r 4), some (az_i (((g : Nat) : Int))), some (az_i (zb))]) (st2 := [az_r 5]) (s2 := am_up s 5 0 (1)) rfl ?_
      refine az_retA rfl rfl ?_
      have e : zo_dispute S ((g : Nat) : Int) zb = (1, 0, 0, S) := by
        simp only [zo_dispute, Int.toNat_natCast]
        first | (rw [if_pos (by omega)]) | (rw [if_neg (by omega), if_pos (by omega)]) | (rw [if_neg (by omega), if_neg (by omega), if_pos (by omega)]) | (rw [if_neg (by omega), if_neg (by omega), if_neg (by omega), if_pos (by omega)]) | (rw [if_neg (by omega), if_neg (by omega), if_neg (by omega), if_neg (by omega), if_pos (by omega)]) | (rw [if_neg (by omega), if_neg (by omega), if_neg (by omega), if_neg (by omega)]) | (rw [if_neg (by omega), if_neg (by omega), if_neg (by omega)]) | (rw [if_neg (by omega), if_neg (by omega)]) | (rw [if_neg (by omega)])
      rw [e]
      exact ⟨rfl, ⟨hR, rfl, fun h => absurd (show (1 : Nat) = 0 from h) (by decide), fun h => absurd (show (1 : Nat) = 3 from h) (by decide), (fun i h3 h5 => by funext j; simp only [am_up, if_neg h3, if_neg h5])⟩⟩
set_option maxRecDepth 100000 in
set_option maxHeartbeats 800000 in
theorem zs_X0_changeStrike_0 {d : Nat} {s : az_S} (hd : 3 ≤ d) {S : zR} {h : Nat} (hR : zRel (s 3) S) (hI : zInv S h) (hh : h ≤ 10000) {zg : Int} (h_zg : az_in zg) : az_R d am_m_X0_changeStrike 0 (az_ini (am_mL am_m_X0_changeStrike) [az_r 4, az_i (zg), az_i (0)]) [] (s) (zCq s (zo_strike S zg 0)) := by
  have hz := zI_h hI hh
  refine az_to 0 (pc2 := 0) (lv2 := [some (az_r 4), some (az_i (zg)), some (az_i (0)), none]) (st2 := []) (s2 := s) rfl ?_
  refine az_to 3 (pc2 := 5) (lv2 := [some (az_r 4), some (az_i (zg)), some (az_i (0)), none]) (st2 := [az_i (zg), az_r 1]) (s2 := s) rfl ?_
  refine az_clv (v := some (az_i (az_b (0 ≤ zg ∧ zg < ((zn S 2 : Nat) : Int))))) (t := s) (m2 := am_m_X8_isGoat) (as := [az_r 1, az_i (zg)]) (rest := []) 8 rfl rfl ⟨rfl, rfl⟩ (by omega) (zs_X8_isGoat (s := s) (z := zg) (by omega) hR hI hh (by first | assumption | exact ⟨by omega, by omega⟩)) ?_
  refine az_to 0 (pc2 := 8) (lv2 := [some (az_r 4), some (az_i (zg)), some (az_i (0)), none]) (st2 := [az_i (az_b (0 ≤ zg ∧ zg < ((zn S 2 : Nat) : Int)))]) (s2 := s) rfl ?_
  refine az_ifbn 19 11 rfl (by decide) (fun h1 => ?_) (fun h1 => ?_)
  · have h1 : 0 ≤ zg ∧ zg < ((zn S 2 : Nat) : Int) := h1
    obtain ⟨g, rfl⟩ : ∃ n0 : Nat, zg = n0 := ⟨zg.toNat, by omega⟩
    have hzg := zI_g hI hh (g := g) (by omega)
    refine az_to 0 (pc2 := 19) (lv2 := [some (az_r 4), some (az_i (((g : Nat) : Int))), some (az_i (0)), none]) (st2 := []) (s2 := s) (rfl) ?_
    refine az_to 1 (pc2 := 20) (lv2 := [some (az_r 4), some (az_i (((g : Nat) : Int))), some (az_i (0)), none]) (st2 := [az_i (0)]) (s2 := s) rfl ?_
    refine az_ifc 27 23 rfl (by decide) ⟨by decide, by decide⟩ (fun _ => ?_) (fun h => absurd (show az_cnd _ _ _ by unfold az_cnd; decide) h)
    refine az_to 6 (pc2 := 35) (lv2 := [some (az_r 4), some (az_i (((g : Nat) : Int))), some (az_i (0)), some (az_i (0))]) (st2 := [az_i (2), az_i (((g : Nat) : Int)), az_r 1]) (s2 := s) rfl ?_
    refine az_clv (v := some (az_i (zG S g 2))) (t := s) (m2 := am_m_X8_ofGoat) (as := [az_r 1, az_i (((g : Nat) : Int)), az_i (2)]) (rest := []) 38 rfl rfl ⟨rfl, rfl⟩ (by omega) (zs_X8_ofGoat (s := s) (g := g) (k := 2) (by omega) hR (by omega) (by omega)) ?_
    refine az_to 0 (pc2 := 38) (lv2 := [some (az_r 4), some (az_i (((g : Nat) : Int))), some (az_i (0)), some (az_i (0))]) (st2 := [az_i (zG S g 2)]) (s2 := s) rfl ?_
    refine az_to 1 (pc2 := 39) (lv2 := [some (az_r 4), some (az_i (((g : Nat) : Int))), some (az_i (0)), some (az_i (0))]) (st2 := [az_i (0), az_i (zG S g 2)]) (s2 := s) rfl ?_
    refine az_if2 52 42 rfl (by decide) (by first | assumption | exact ⟨by omega, by omega⟩) ⟨by decide, by decide⟩ (fun h2 => ?_) (fun h2 => ?_)
    · have h2 : ¬ zG S g 2 = 0 := h2
      refine az_to 5 (pc2 := 59) (lv2 := [some (az_r 4), some (az_i (((g : Nat) : Int))), some (az_i (0)), some (az_i (0))]) (st2 := [az_i (0), az_i (2), az_i (((g : Nat) : Int)), az_r 1]) (s2 := s) rfl ?_
      refine az_clv (v := none) (t := am_up s 3 (159 + 5 * g + 2) 0) (m2 := am_m_X8_setGoat) (as := [az_r 1, az_i (((g : Nat) : Int)), az_i (2), az_i (0)]) (rest := []) 62 rfl rfl ⟨rfl, rfl⟩ (by omega) (zs_X8_setGoat (s := s) (g := g) (k := 2) (v := 0) (by omega) (by omega) (by omega)) ?_
      refine az_to 0 (pc2 := 62) (lv2 := [some (az_r 4), some (az_i (((g : Nat) : Int))), some (az_i (0)), some (az_i (0))]) (st2 := []) (s2 := am_up s 3 (159 + 5 * g + 2) 0) rfl ?_
      have hR2 : zRel ((am_up s 3 (159 + 5 * g + 2) 0) 3) (zup S (150 + 5 * g + 2) (0)) := zRel_G hR ⟨hz.1.1, hz.1.2.1⟩ (by omega) (by omega : 2 < 5) _
      have hI2 : zInv (zup S (150 + 5 * g + 2) (0)) h := zV_strike hI (Nat.le_refl h) (by omega) ⟨by omega, by omega⟩
      refine az_to 5 (pc2 := 71) (lv2 := [some (az_r 4), some (az_i (((g : Nat) : Int))), some (az_i (0)), some (az_i (0))]) (st2 := [az_i (2), az_r 1, az_r 5]) (s2 := am_up s 3 (159 + 5 * g + 2) 0) rfl ?_
      refine az_clv (v := some (az_i (zsg (zup S (150 + 5 * g + 2) (0)) 2))) (t := am_up s 3 (159 + 5 * g + 2) 0) (m2 := am_m_X8_sumOfGoats) (as := [az_r 1, az_i (2)]) (rest := [az_r 5]) 74 rfl rfl ⟨rfl, rfl⟩ (by omega) (zs_X8_sumOfGoats (s := am_up s 3 (159 + 5 * g + 2) 0) (k0 := 2) (by omega) hR2 hI2 hh (by omega)) ?_
      refine az_to 0 (pc2 := 74) (lv2 := [some (az_r 4), some (az_i (((g : Nat) : Int))), some (az_i (0)), some (az_i (0))]) (st2 := [az_i (zsg (zup S (150 + 5 * g + 2) (0)) 2), az_r 5]) (s2 := am_up s 3 (159 + 5 * g + 2) 0) rfl ?_
      refine az_clv (v := some (az_r 5)) (t := am_up (am_up (am_up s 3 (159 + 5 * g + 2) 0) 5 0 (0)) 5 1 ((zsg (zup S (150 + 5 * g + 2) (0)) 2))) (m2 := am_m_X6_done) (as := [az_r 5, az_i (zsg (zup S (150 + 5 * g + 2) (0)) 2)]) (rest := []) 77 rfl rfl ⟨rfl, rfl⟩ (by omega) (zs_X6_done (s := am_up s 3 (159 + 5 * g + 2) 0) (v := (zsg (zup S (150 + 5 * g + 2) (0)) 2)) (by omega) ) ?_
      refine az_to 0 (pc2 := 77) (lv2 := [some (az_r 4), some (az_i (((g : Nat) : Int))), some (az_i (0)), some (az_i (0))]) (st2 := [az_r 5]) (s2 := am_up (am_up (am_up s 3 (159 + 5 * g + 2) 0) 5 0 (0)) 5 1 ((zsg (zup S (150 + 5 * g + 2) (0)) 2))) rfl ?_
      refine az_retA rfl rfl ?_
      have e : zo_strike S ((g : Nat) : Int) 0 = (0, (zsg (zup S (150 + 5 * g + 2) (0)) 2), 0, zup S (150 + 5 * g + 2) (0)) := by
        simp only [zo_strike, Int.toNat_natCast]
        rw [if_neg (by omega), if_neg (by omega)]
        try rfl
      rw [e]
      exact ⟨rfl, ⟨hR2, rfl, fun _ => rfl, fun h => absurd (show (0 : Nat) = 3 from h) (by decide), (fun i h3 h5 => by funext j; simp only [am_up, if_neg h3, if_neg h5])⟩⟩
    · have h2 : zG S g 2 = 0 := Decidable.not_not.mp h2
      refine az_to 4 (pc2 := 48) (lv2 := [some (az_r 4), some (az_i (((g : Nat) : Int))), some (az_i (0)), some (az_i (0))]) (st2 := [az_i (0), az_i (3), az_r 5]) (s2 := s) rfl ?_
      refine az_clv (v := some (az_r 5)) (t := am_up (am_up (am_up s 5 0 (3)) 5 2 (3)) 5 3 (0)) (m2 := am_m_X6_refused) (as := [az_r 5, az_i (3), az_i (0)]) (rest := []) 51 rfl rfl ⟨rfl, rfl⟩ (by omega) (zs_X6_refused (s := s) (r := 3) (w := 0) (by omega) ) ?_
      refine az_to 0 (pc2 := 51) (lv2 := [some (az_r 4), some (az_i (((g : Nat) : Int))), some (az_i (0)), some (az_i (0))]) (st2 := [az_r 5]) (s2 := am_up (am_up (am_up s 5 0 (3)) 5 2 (3)) 5 3 (0)) rfl ?_
      refine az_retA rfl rfl ?_
      have e : zo_strike S ((g : Nat) : Int) 0 = (3, 3, 0, S) := by
        simp only [zo_strike, Int.toNat_natCast]
        first | (rw [if_pos (by omega)]) | (rw [if_neg (by omega), if_pos (by omega)]) | (rw [if_neg (by omega), if_neg (by omega), if_pos (by omega)]) | (rw [if_neg (by omega), if_neg (by omega), if_neg (by omega), if_pos (by omega)]) | (rw [if_neg (by omega), if_neg (by omega), if_neg (by omega), if_neg (by omega), if_pos (by omega)]) | (rw [if_neg (by omega), if_neg (by omega), if_neg (by omega), if_neg (by omega)]) | (rw [if_neg (by omega), if_neg (by omega), if_neg (by omega)]) | (rw [if_neg (by omega), if_neg (by omega)]) | (rw [if_neg (by omega)])
        try rfl
      rw [e]
      exact ⟨rfl, ⟨hR, rfl, fun h => absurd (show (3 : Nat) = 0 from h) (by decide), fun _ => ⟨rfl, rfl⟩, (fun i h3 h5 => by funext j; simp only [am_up, if_neg h3, if_neg h5])⟩⟩
  · have h1 : ¬ (0 ≤ zg ∧ zg < ((zn S 2 : Nat) : Int)) := h1
    refine az_to 2 (pc2 := 15) (lv2 := [some (az_r 4), some (az_i (zg)), some (az_i (0)), none]) (st2 := [az_r 5]) (s2 := s) rfl ?_
    refine az_clv (v := some (az_r 5)) (t := am_up s 5 0 (1)) (m2 := am_m_X6_noSuch) (as := [az_r 5]) (rest := []) 18 rfl rfl ⟨rfl, rfl⟩ (by omega) (zs_X6_noSuch (s := s)  (by omega) ) ?_
    refine az_to 0 (pc2 := 18) (lv2 := [some (az_r 4), some (az_i (zg)), some (az_i (0)), none]) (st2 := [az_r 5]) (s2 := am_up s 5 0 (1)) rfl ?_
    refine az_retA rfl rfl ?_
    have e : zo_strike S zg 0 = (1, 0, 0, S) := by
      simp only [zo_strike, Int.toNat_natCast]
      first | (rw [if_pos (by omega)]) | (rw [if_neg (by omega), if_pos (by omega)]) | (rw [if_neg (by omega), if_neg (by omega), if_pos (by omega)]) | (rw [if_neg (by omega), if_neg (by omega), if_neg (by omega), if_pos (by omega)]) | (rw [if_neg (by omega), if_neg (by omega), if_neg (by omega), if_neg (by omega), if_pos (by omega)]) | (rw [if_neg (by omega), if_neg (by omega), if_neg (by omega), if_neg (by omega)]) | (rw [if_neg (by omega), if_neg (by omega), if_neg (by omega)]) | (rw [if_neg (by omega), if_neg (by omega)]) | (rw [if_neg (by omega)])
      try rfl
    rw [e]
    exact ⟨rfl, ⟨hR, rfl, fun h => absurd (show (1 : Nat) = 0 from h) (by decide), fun h => absurd (show (1 : Nat) = 3 from h) (by decide), (fun i h3 h5 => by funext j; simp only [am_up, if_neg h3, if_neg h5])⟩⟩
set_option maxRecDepth 100000 in
set_option maxHeartbeats 800000 in
theorem zs_X0_changeStrike_1 {d : Nat} {s : az_S} (hd : 3 ≤ d) {S : zR} {h : Nat} (hR : zRel (s 3) S) (hI : zInv S h) (hh : h ≤ 10000) {zg : Int} (h_zg : az_in zg) : az_R d am_m_X0_changeStrike 0 (az_ini (am_mL am_m_X0_changeStrike) [az_r 4, az_i (zg), az_i (1)]) [] (s) (zCq s (zo_strike S zg 1)) := by
  have hz := zI_h hI hh
  refine az_to 0 (pc2 := 0) (lv2 := [some (az_r 4), some (az_i (zg)), some (az_i (1)), none]) (st2 := []) (s2 := s) rfl ?_
  refine az_to 3 (pc2 := 5) (lv2 := [some (az_r 4), some (az_i (zg)), some (az_i (1)), none]) (st2 := [az_i (zg), az_r 1]) (s2 := s) rfl ?_
  refine az_clv (v := some (az_i (az_b (0 ≤ zg ∧ zg < ((zn S 2 : Nat) : Int))))) (t := s) (m2 := am_m_X8_isGoat) (as := [az_r 1, az_i (zg)]) (rest := []) 8 rfl rfl ⟨rfl, rfl⟩ (by omega) (zs_X8_isGoat (s := s) (z := zg) (by omega) hR hI hh (by first | assumption | exact ⟨by omega, by omega⟩)) ?_
  refine az_to 0 (pc2 := 8) (lv2 := [some (az_r 4), some (az_i (zg)), some (az_i (1)), none]) (st2 := [az_i (az_b (0 ≤ zg ∧ zg < ((zn S 2 : Nat) : Int)))]) (s2 := s) rfl ?_
  refine az_ifbn 19 11 rfl (by decide) (fun h1 => ?_) (fun h1 => ?_)
  · have h1 : 0 ≤ zg ∧ zg < ((zn S 2 : Nat) : Int) := h1
    obtain ⟨g, rfl⟩ : ∃ n0 : Nat, zg = n0 := ⟨zg.toNat, by omega⟩
    have hzg := zI_g hI hh (g := g) (by omega)
    refine az_to 0 (pc2 := 19) (lv2 := [some (az_r 4), some (az_i (((g : Nat) : Int))), some (az_i (1)), none]) (st2 := []) (s2 := s) (rfl) ?_
    refine az_to 1 (pc2 := 20) (lv2 := [some (az_r 4), some (az_i (((g : Nat) : Int))), some (az_i (1)), none]) (st2 := [az_i (1)]) (s2 := s) rfl ?_
    refine az_ifc 27 23 rfl (by decide) ⟨by decide, by decide⟩ (fun h => absurd h (by unfold az_cnd; decide)) (fun _ => ?_)
    refine az_to 7 (pc2 := 35) (lv2 := [some (az_r 4), some (az_i (((g : Nat) : Int))), some (az_i (1)), some (az_i (1))]) (st2 := [az_i (2), az_i (((g : Nat) : Int)), az_r 1]) (s2 := s) rfl ?_
    refine az_clv (v := some (az_i (zG S g 2))) (t := s) (m2 := am_m_X8_ofGoat) (as := [az_r 1, az_i (((g : Nat) : Int)), az_i (2)]) (rest := []) 38 rfl rfl ⟨rfl, rfl⟩ (by omega) (zs_X8_ofGoat (s := s) (g := g) (k := 2) (by omega) hR (by omega) (by omega)) ?_
    refine az_to 0 (pc2 := 38) (lv2 := [some (az_r 4), some (az_i (((g : Nat) : Int))), some (az_i (1)), some (az_i (1))]) (st2 := [az_i (zG S g 2)]) (s2 := s) rfl ?_
    refine az_to 1 (pc2 := 39) (lv2 := [some (az_r 4), some (az_i (((g : Nat) : Int))), some (az_i (1)), some (az_i (1))]) (st2 := [az_i (1), az_i (zG S g 2)]) (s2 := s) rfl ?_
    refine az_if2 52 42 rfl (by decide) (by first | assumption | exact ⟨by omega, by omega⟩) ⟨by decide, by decide⟩ (fun h2 => ?_) (fun h2 => ?_)
    · have h2 : ¬ zG S g 2 = 1 := h2
      refine az_to 5 (pc2 := 59) (lv2 := [some (az_r 4), some (az_i (((g : Nat) : Int))), some (az_i (1)), some (az_i (1))]) (st2 := [az_i (1), az_i (2), az_i (((g : Nat) : Int)), az_r 1]) (s2 := s) rfl ?_
      refine az_clv (v := none) (t := am_up s 3 (159 + 5 * g + 2) 1) (m2 := am_m_X8_setGoat) (as := [az_r 1, az_i (((g : Nat) : Int)), az_i (2), az_i (1)]) (rest := []) 62 rfl rfl ⟨rfl, rfl⟩ (by omega) (zs_X8_setGoat (s := s) (g := g) (k := 2) (v := 1) (by omega) (by omega) (by omega)) ?_
      refine az_to 0 (pc2 := 62) (lv2 := [some (az_r 4), some (az_i (((g : Nat) : Int))), some (az_i (1)), some (az_i (1))]) (st2 := []) (s2 := am_up s 3 (159 + 5 * g + 2) 1) rfl ?_
      have hR2 : zRel ((am_up s 3 (159 + 5 * g + 2) 1) 3) (zup S (150 + 5 * g + 2) (1)) := zRel_G hR ⟨hz.1.1, hz.1.2.1⟩ (by omega) (by omega : 2 < 5) _
      have hI2 : zInv (zup S (150 + 5 * g + 2) (1)) h := zV_strike hI (Nat.le_refl h) (by omega) ⟨by omega, by omega⟩
      refine az_to 5 (pc2 := 71) (lv2 := [some (az_r 4), some (az_i (((g : Nat) : Int))), some (az_i (1)), some (az_i (1))]) (st2 := [az_i (2), az_r 1, az_r 5]) (s2 := am_up s 3 (159 + 5 * g + 2) 1) rfl ?_
      refine az_clv (v := some (az_i (zsg (zup S (150 + 5 * g + 2) (1)) 2))) (t := am_up s 3 (159 + 5 * g + 2) 1) (m2 := am_m_X8_sumOfGoats) (as := [az_r 1, az_i (2)]) (rest := [az_r 5]) 74 rfl rfl ⟨rfl, rfl⟩ (by omega) (zs_X8_sumOfGoats (s := am_up s 3 (159 + 5 * g + 2) 1) (k0 := 2) (by omega) hR2 hI2 hh (by omega)) ?_
      refine az_to 0 (pc2 := 74) (lv2 := [some (az_r 4), some (az_i (((g : Nat) : Int))), some (az_i (1)), some (az_i (1))]) (st2 := [az_i (zsg (zup S (150 + 5 * g + 2) (1)) 2), az_r 5]) (s2 := am_up s 3 (159 + 5 * g + 2) 1) rfl ?_
      refine az_clv (v := some (az_r 5)) (t := am_up (am_up (am_up s 3 (159 + 5 * g + 2) 1) 5 0 (0)) 5 1 ((zsg (zup S (150 + 5 * g + 2) (1)) 2))) (m2 := am_m_X6_done) (as := [az_r 5, az_i (zsg (zup S (150 + 5 * g + 2) (1)) 2)]) (rest := []) 77 rfl rfl ⟨rfl, rfl⟩ (by omega) (zs_X6_done (s := am_up s 3 (159 + 5 * g + 2) 1) (v := (zsg (zup S (150 + 5 * g + 2) (1)) 2)) (by omega) ) ?_
      refine az_to 0 (pc2 := 77) (lv2 := [some (az_r 4), some (az_i (((g : Nat) : Int))), some (az_i (1)), some (az_i (1))]) (st2 := [az_r 5]) (s2 := am_up (am_up (am_up s 3 (159 + 5 * g + 2) 1) 5 0 (0)) 5 1 ((zsg (zup S (150 + 5 * g + 2) (1)) 2))) rfl ?_
      refine az_retA rfl rfl ?_
      have e : zo_strike S ((g : Nat) : Int) 1 = (0, (zsg (zup S (150 + 5 * g + 2) (1)) 2), 0, zup S (150 + 5 * g + 2) (1)) := by
        simp only [zo_strike, Int.toNat_natCast]
        rw [if_neg (by omega), if_neg (by omega)]
        try rfl
      rw [e]
      exact ⟨rfl, ⟨hR2, rfl, fun _ => rfl, fun h => absurd (show (0 : Nat) = 3 from h) (by decide), (fun i h3 h5 => by funext j; simp only [am_up, if_neg h3, if_neg h5])⟩⟩
    · have h2 : zG S g 2 = 1 := Decidable.not_not.mp h2
      refine az_to 4 (pc2 := 48) (lv2 := [some (az_r 4), some (az_i (((g : Nat) : Int))), some (az_i (1)), some (az_i (1))]) (st2 := [az_i (1), az_i (3), az_r 5]) (s2 := s) rfl ?_
      refine az_clv (v := some (az_r 5)) (t := am_up (am_up (am_up s 5 0 (3)) 5 2 (3)) 5 3 (1)) (m2 := am_m_X6_refused) (as := [az_r 5, az_i (3), az_i (1)]) (rest := []) 51 rfl rfl ⟨rfl, rfl⟩ (by omega) (zs_X6_refused (s := s) (r := 3) (w := 1) (by omega) ) ?_
      refine az_to 0 (pc2 := 51) (lv2 := [some (az_r 4), some (az_i (((g : Nat) : Int))), some (az_i (1)), some (az_i (1))]) (st2 := [az_r 5]) (s2 := am_up (am_up (am_up s 5 0 (3)) 5 2 (3)) 5 3 (1)) rfl ?_
      refine az_retA rfl rfl ?_
      have e : zo_strike S ((g : Nat) : Int) 1 = (3, 3, 1, S) := by
        simp only [zo_strike, Int.toNat_natCast]
        first | (rw [if_pos (by omega)]) | (rw [if_neg (by omega), if_pos (by omega)]) | (rw [if_neg (by omega), if_neg (by omega), if_pos (by omega)]) | (rw [if_neg (by omega), if_neg (by omega), if_neg (by omega), if_pos (by omega)]) | (rw [if_neg (by omega), if_neg (by omega), if_neg (by omega), if_neg (by omega), if_pos (by omega)]) | (rw [if_neg (by omega), if_neg (by omega), if_neg (by omega), if_neg (by omega)]) | (rw [if_neg (by omega), if_neg (by omega), if_neg (by omega)]) | (rw [if_neg (by omega), if_neg (by omega)]) | (rw [if_neg (by omega)])
        try rfl
      rw [e]
      exact ⟨rfl, ⟨hR, rfl, fun h => absurd (show (3 : Nat) = 0 from h) (by decide), fun _ => ⟨rfl, rfl⟩, (fun i h3 h5 => by funext j; simp only [am_up, if_neg h3, if_neg h5])⟩⟩
  · have h1 : ¬ (0 ≤ zg ∧ zg < ((zn S 2 : Nat) : Int)) := h1
    refine az_to 2 (pc2 := 15) (lv2 := [some (az_r 4), some (az_i (zg)), some (az_i (1)), none]) (st2 := [az_r 5]) (s2 := s) rfl ?_
    refine az_clv (v := some (az_r 5)) (t := am_up s 5 0 (1)) (m2 := am_m_X6_noSuch) (as := [az_r 5]) (rest := []) 18 rfl rfl ⟨rfl, rfl⟩ (by omega) (zs_X6_noSuch (s := s)  (by omega) ) ?_
    refine az_to 0 (pc2 := 18) (lv2 := [some (az_r 4), some (az_i (zg)), some (az_i (1)), none]) (st2 := [az_r 5]) (s2 := am_up s 5 0 (1)) rfl ?_
    refine az_retA rfl rfl ?_
    have e : zo_strike S zg 1 = (1, 0, 0, S) := by
      simp only [zo_strike, Int.toNat_natCast]
      first | (rw [if_pos (by omega)]) | (rw [if_neg (by omega), if_pos (by omega)]) | (rw [if_neg (by omega), if_neg (by omega), if_pos (by omega)]) | (rw [if_neg (by omega), if_neg (by omega), if_neg (by omega), if_pos (by omega)]) | (rw [if_neg (by omega), if_neg (by omega), if_neg (by omega), if_neg (by omega), if_pos (by omega)]) | (rw [if_neg (by omega), if_neg (by omega), if_neg (by omega), if_neg (by omega)]) | (rw [if_neg (by omega), if_neg (by omega), if_neg (by omega)]) | (rw [if_neg (by omega), if_neg (by omega)]) | (rw [if_neg (by omega)])
      try rfl
    rw [e]
    exact ⟨rfl, ⟨hR, rfl, fun h => absurd (show (1 : Nat) = 0 from h) (by decide), fun h => absurd (show (1 : Nat) = 3 from h) (by decide), (fun i h3 h5 => by funext j; simp only [am_up, if_neg h3, if_neg h5])⟩⟩
set_option maxRecDepth 100000 in
set_option maxHeartbeats 800000 in
theorem zs_X0_passHours {d : Nat} {s : az_S} (hd : 3 ≤ d) {S : zR} {h : Nat} (hR : zRel (s 3) S) (hI : zInv S h) (hh : h ≤ 10000) {zh : Int} (h_zh : az_in zh) : az_R d am_m_X0_passHours 0 (az_ini (am_mL am_m_X0_passHours) [az_r 4, az_i (zh)]) [] (s) (zCq s (zo_pass S zh)) := by
  have hz := zI_h hI hh
  refine az_to 0 (pc2 := 0) (lv2 := [some (az_r 4), some (az_i (zh)), none]) (st2 := []) (s2 := s) rfl ?_
  refine az_to 3 (pc2 := 4) (lv2 := [some (az_r 4), some (az_i (zh)), none]) (st2 := [az_i (48), az_i (1), az_i (zh)]) (s2 := s) rfl ?_
  refine az_clv (v := some (az_i (az_b (1 ≤ zh ∧ zh ≤ 48)))) (t := s) (m2 := am_m_X9_isWithin) (as := [az_i (zh), az_i (1), az_i (48)]) (rest := []) 7 rfl rfl ⟨rfl, rfl⟩ (by omega) (zs_X9_isWithin (s := s) (z := zh) (lo := 1) (hi := 48) (by omega) (by first | assumption | exact ⟨by omega, by omega⟩) ⟨by decide, by decide⟩ ⟨by decide, by decide⟩) ?_
  refine az_to 0 (pc2 := 7) (lv2 := [some (az_r 4), some (az_i (zh)), none]) (st2 := [az_i (az_b (1 ≤ zh ∧ zh ≤ 48))]) (s2 := s) rfl ?_
  refine az_ifbn 18 10 rfl (by decide) (fun h1 => ?_) (fun h1 => ?_)
  · have h1 : 1 ≤ zh ∧ zh ≤ 48 := h1
    refine az_to 3 (pc2 := 23) (lv2 := [some (az_r 4), some (az_i (zh)), none]) (st2 := [az_i (zh), az_r 1]) (s2 := s) rfl ?_
    refine az_clv (v := some (az_i (zcr S zh))) (t := s) (m2 := am_m_X8_countRiddles) (as := [az_r 1, az_i (zh)]) (rest := []) 26 rfl rfl ⟨rfl, rfl⟩ (by omega) (zs_X8_countRiddles (s := s) (n := zh) (by omega) hR hI hh (by first | assumption | exact ⟨by omega, by omega⟩)) ?_
    refine az_to 0 (pc2 := 26) (lv2 := [some (az_r 4), some (az_i (zh)), none]) (st2 := [az_i (zcr S zh)]) (s2 := s) rfl ?_
    refine az_to 7 (pc2 := 37) (lv2 := [some (az_r 4), some (az_i (zh)), some (az_i (zcr S zh))]) (st2 := [az_i (0), az_r 1, az_i (0), az_r 1]) (s2 := s) rfl ?_
    refine az_clv (v := some (az_i (S 3))) (t := s) (m2 := am_m_X8_of) (as := [az_r 1, az_i (0)]) (rest := [az_i (0), az_r 1]) 40 rfl rfl ⟨rfl, rfl⟩ (by omega) (zs_X8_of_0 (s := s)  (by omega) hR hI hh) ?_
    refine az_to 0 (pc2 := 40) (lv2 := [some (az_r 4), some (az_i (zh)), some (az_i (zcr S zh))]) (st2 := [az_i (S 3), az_i (0), az_r 1]) (s2 := s) rfl ?_
    refine az_to 2 (pc2 := 42) (lv2 := [some (az_r 4), some (az_i (zh)), some (az_i (zcr S zh))]) (st2 := [az_i ((S 3 + zh)), az_i (0), az_r 1]) (s2 := s) rfl ?_
    refine az_clv (v := none) (t := am_up s 3 0 ((S 3 + zh))) (m2 := am_m_X8_set) (as := [az_r 1, az_i (0), az_i ((S 3 + zh))]) (rest := []) 45 rfl rfl ⟨rfl, rfl⟩ (by omega) (zs_X8_set (s := s) (k := 0) (v := ((S 3 + zh))) (by omega) (by omega)) ?_
    refine az_to 0 (pc2 := 45) (lv2 := [some (az_r 4), some (az_i (zh)), some (az_i (zcr S zh))]) (st2 := []) (s2 := am_up s 3 0 ((S 3 + zh))) rfl ?_
    refine az_to 3 (pc2 := 50) (lv2 := [some (az_r 4), some (az_i (zh)), some (az_i (zcr S zh))]) (st2 := [az_i (zcr S zh), az_r 5]) (s2 := am_up s 3 0 ((S 3 + zh))) rfl ?_
    refine az_clv (v := some (az_r 5)) (t := am_up (am_up (am_up s 3 0 ((S 3 + zh))) 5 0 (0)) 5 1 ((zcr S zh))) (m2 := am_m_X6_done) (as := [az_r 5, az_i (zcr S zh)]) (rest := []) 53 rfl rfl ⟨rfl, rfl⟩ (by omega) (zs_X6_done (s := am_up s 3 0 ((S 3 + zh))) (v := (zcr S zh)) (by omega) ) ?_
    refine az_to 0 (pc2 := 53) (lv2 := [some (az_r 4), some (az_i (zh)), some (az_i (zcr S zh))]) (st2 := [az_r 5]) (s2 := am_up (am_up (am_up s 3 0 ((S 3 + zh))) 5 0 (0)) 5 1 ((zcr S zh))) rfl ?_
    refine az_retA rfl rfl ?_
    have e : zo_pass S zh = (0, (zcr S zh), 0, zup S 3 (S 3 + zh)) := by
      simp only [zo_pass, Int.toNat_natCast]
      rw [if_neg (by omega)]
    rw [e]
    exact ⟨rfl, ⟨zRel_3 hR ⟨hz.1.1, hz.1.2.1⟩ (S 3 + zh), rfl, fun _ => rfl, fun h => absurd (show (0 : Nat) = 3 from h) (by decide), (fun i h3 h5 => by funext j; simp only [am_up, if_neg h3, if_neg h5])⟩⟩
  · have h1 : ¬ (1 ≤ zh ∧ zh ≤ 48) := h1
    refine az_to 2 (pc2 := 14) (lv2 := [some (az_r 4), some (az_i (zh)), none]) (st2 := [az_r 5]) (s2 := s) rfl ?_
    refine az_clv (v := some (az_r 5)) (t := am_up s 5 0 (2)) (m2 := am_m_X6_outOfRange) (as := [az_r 5]) (rest := []) 17 rfl rfl ⟨rfl, rfl⟩ (by omega) (zs_X6_outOfRange (s := s)  (by omega) ) ?_
    refine az_to 0 (pc2 := 17) (lv2 := [some (az_r 4), some (az_i (zh)), none]) (st2 := [az_r 5]) (s2 := am_up s 5 0 (2)) rfl ?_
    refine az_retA rfl rfl ?_
    have e : zo_pass S zh = (2, 0, 0, S) := by
      simp only [zo_pass, Int.toNat_natCast]
      first | (rw [if_pos (by omega)]) | (rw [if_neg (by omega), if_pos (by omega)]) | (rw [if_neg (by omega), if_neg (by omega), if_pos (by omega)]) | (rw [if_neg (by omega), if_neg (by omega), if_neg (by omega), if_pos (by omega)]) | (rw [if_neg (by omega), if_neg (by omega), if_neg (by omega), if_neg (by omega), if_pos (by omega)]) | (rw [if_neg (by omega), if_neg (by omega), if_neg (by omega), if_neg (by omega)]) | (rw [if_neg (by omega), if_neg (by omega), if_neg (by omega)]) | (rw [if_neg (by omega), if_neg (by omega)]) | (rw [if_neg (by omega)])
    rw [e]
    exact ⟨rfl, ⟨hR, rfl, fun h => absurd (show (2 : Nat) = 0 from h) (by decide), fun h => absurd (show (2 : Nat) = 3 from h) (by decide), (fun i h3 h5 => by funext j; simp only [am_up, if_neg h3, if_neg h5])⟩⟩
set_option maxRecDepth 100000 in
set_option maxHeartbeats 800000 in
theorem zs_X0_emptyChest_0_L2 {d : Nat} {s : az_S} (hd : 3 ≤ d) {S : zR} (hR : zRel (s 3) S) (hS2 : ((zn S 2 : Nat) : Int) = S 2 ∧ zn S 2 ≤ 5 ∧ zn S 0 ≤ 10 ∧ zn S 1 ≤ 6) {b : Nat} (hb : b < zn S 0) : ∀ (m : Nat) (k : Nat) (u : az_S), m = zn S 2 - k → (k ≤ zn S 2) → (zRel (u 3) (zsl S b 0 k)) → (∀ i, i ≠ 3 → u i = s i) → az_R d am_m_X0_emptyChest 2 [some (az_r 4), some (az_i (((b : Nat) : Int))), some (az_i (1)), some (az_i (((k : Nat) : Int)))] [] (u) (fun o t => o = .inl none ∧ zRel (t 3) (zsl S b 0 (zn S 2)) ∧ ∀ i, i ≠ 3 → t i = s i) := by
  intro m
  induction m using Nat.strongRecOn with
  | _ m ih =>
    intro k u hm g0 g1 g2
    have g5 : u 3 4 = ((zn S 2 : Nat) : Int) := by rw [g1.1.2.2.2.2, zsl_o S b 0 k 2 (fun g hg => by omega), hS2.1]
    have hnk : zn (zsl S b 0 k) 0 = zn S 0 ∧ zn (zsl S b 0 k) 1 = zn S 1 := by unfold zn; rw [zsl_o S b 0 k 0 (fun g hg => by omega), zsl_o S b 0 k 1 (fun g hg => by omega)]; exact ⟨rfl, rfl⟩
    refine az_to 4 (pc2 := 8) (lv2 := [some (az_r 4), some (az_i (((b : Nat) : Int))), some (az_i (1)), some (az_i (((k : Nat) : Int)))]) (st2 := [az_i (4), az_r 1, az_i (((k : Nat) : Int))]) (s2 := u) rfl ?_
    refine az_clv (v := some (az_i (u 3 4))) (t := u) (m2 := am_m_X8_of) (as := [az_r 1, az_i (4)]) (rest := [az_i (((k : Nat) : Int))]) 11 rfl rfl ⟨rfl, rfl⟩ (by omega) (zs_X8_of_raw (s := u) (k := 4) (by omega) (by omega)) ?_
    refine az_to 0 (pc2 := 11) (lv2 := [some (az_r 4), some (az_i (((b : Nat) : Int))), some (az_i (1)), some (az_i (((k : Nat) : Int)))]) (st2 := [az_i (u 3 4), az_i (((k : Nat) : Int))]) (s2 := u) rfl ?_
    refine az_to 0 (pc2 := 11) (lv2 := [some (az_r 4), some (az_i (((b : Nat) : Int))), some (az_i (1)), some (az_i (((k : Nat) : Int)))]) (st2 := [az_i (((zn S 2 : Nat) : Int)), az_i (((k : Nat) : Int))]) (s2 := u) (by rw [g5]; rfl) ?_
    refine az_if2 55 14 rfl (by decide) (by first | assumption | exact ⟨by omega, by omega⟩) (by first | assumption | exact ⟨by omega, by omega⟩) (fun h1 => ?_) (fun h1 => ?_)
    · have h1 : ((zn S 2 : Nat) : Int) ≤ ((k : Nat) : Int) := h1
      refine az_ret0 rfl rfl ?_
      obtain rfl : k = zn S 2 := by omega
      exact ⟨rfl, g1, g2⟩
    · have h1 : ¬ (((zn S 2 : Nat) : Int) ≤ ((k : Nat) : Int)) := h1
      refine az_to 1 (pc2 := 15) (lv2 := [some (az_r 4), some (az_i (((b : Nat) : Int))), some (az_i (1)), some (az_i (((k : Nat) : Int)))]) (st2 := [az_i (1)]) (s2 := u) rfl ?_
      refine az_ifc 36 18 rfl (by decide) ⟨by decide, by decide⟩ (fun h => absurd h (by unfold az_cnd; decide)) (fun _ => ?_)
      refine az_to 9 (pc2 := 30) (lv2 := [some (az_r 4), some (az_i (((b : Nat) : Int))), some (az_i (1)), some (az_i (((k : Nat) : Int)))]) (st2 := [az_i ((8 + ((k : Nat) : Int))), az_i (((b : Nat) : Int)), az_r 1, az_i (1), az_i (((k : Nat) : Int)), az_r 4]) (s2 := u) rfl ?_
      refine az_clv (v := some (az_i (zB (zsl S b 0 k) b (7 + k)))) (t := u) (m2 := am_m_X8_ofBridge) (as := [az_r 1, az_i (((b : Nat) : Int)), az_i ((8 + ((k : Nat) : Int)))]) (rest := [az_i (1), az_i (((k : Nat) : Int)), az_r 4]) 33 rfl rfl ⟨rfl, rfl⟩ (by omega) (zs_X8_ofBridge_p (s := u) (b := b) (g := k) (by omega) g1 (by omega) (by omega) (by omega)) ?_
      refine az_to 0 (pc2 := 33) (lv2 := [some (az_r 4), some (az_i (((b : Nat) : Int))), some (az_i (1)), some (az_i (((k : Nat) : Int)))]) (st2 := [az_i (zB (zsl S b 0 k) b (7 + k)), az_i (1), az_i (((k : Nat) : Int)), az_r 4]) (s2 := u) rfl ?_
      refine az_clv (v := none) (t := am_up u 3 (159 + 5 * k + 1) (zG (zsl S b 0 k) k 1 + (zB (zsl S b 0 k) b (7 + k)))) (m2 := am_m_X0_addToGoat) (as := [az_r 4, az_i (((k : Nat) : Int)), az_i (1), az_i (zB (zsl S b 0 k) b (7 + k))]) (rest := []) 36 rfl rfl ⟨rfl, rfl⟩ (by omega) (zs_X0_addToGoat (s := u) (g := k) (k := 1) (v := (zB (zsl S b 0 k) b (7 + k))) (by omega) g1 (by omega) (by omega)) ?_
      refine az_to 0 (pc2 := 36) (lv2 := [some (az_r 4), some (az_i (((b : Nat) : Int))), some (az_i (1)), some (az_i (((k : Nat) : Int)))]) (st2 := []) (s2 := am_up u 3 (159 + 5 * k + 1) (zG (zsl S b 0 k) k 1 + (zB (zsl S b 0 k) b (7 + k)))) rfl ?_
      refine az_to 7 (pc2 := 46) (lv2 := [some (az_r 4), some (az_i (((b : Nat) : Int))), some (az_i (1)), some (az_i (((k : Nat) : Int)))]) (st2 := [az_i (0), az_i ((8 + ((k : Nat) : Int))), az_i (((b : Nat) : Int)), az_r 1]) (s2 := am_up u 3 (159 + 5 * k + 1) (zG (zsl S b 0 k) k 1 + (zB (zsl S b 0 k) b (7 + k)))) rfl ?_
      refine az_clv (v := none) (t := am_up (am_up u 3 (159 + 5 * k + 1) (zG (zsl S b 0 k) k 1 + (zB (zsl S b 0 k) b (7 + k)))) 3 (5 + 13 * b + (8 + k)) 0) (m2 := am_m_X8_setBridge) (as := [az_r 1, az_i (((b : Nat) : Int)), az_i ((8 + ((k : Nat) : Int))), az_i (0)]) (rest := []) 49 rfl rfl ⟨rfl, rfl⟩ (by omega) (zs_X8_setBridge (s := am_up u 3 (159 + 5 * k + 1) (zG (zsl S b 0 k) k 1 + (zB (zsl S b 0 k) b (7 + k)))) (b := b) (k := (8 + k)) (v := 0) (by omega) (by omega) (by omega)) ?_
      refine az_to 0 (pc2 := 49) (lv2 := [some (az_r 4), some (az_i (((b : Nat) : Int))), some (az_i (1)), some (az_i (((k : Nat) : Int)))]) (st2 := []) (s2 := am_up (am_up u 3 (159 + 5 * k + 1) (zG (zsl S b 0 k) k 1 + (zB (zsl S b 0 k) b (7 + k)))) 3 (5 + 13 * b + (8 + k)) 0) rfl ?_
      refine az_to 2 (pc2 := 2) (lv2 := [some (az_r 4), some (az_i (((b : Nat) : Int))), some (az_i (1)), some (az_i ((((k : Nat) : Int) + 1)))]) (st2 := []) (s2 := am_up (am_up u 3 (159 + 5 * k + 1) (zG (zsl S b 0 k) k 1 + (zB (zsl S b 0 k) b (7 + k)))) 3 (5 + 13 * b + (8 + k)) 0) rfl ?_
      have e1 : zB (zsl S b 0 k) b (7 + k) = zB S b (7 + k) := zsl_o S b 0 k _ (fun g hg => by omega)
      have e2 : zG (zsl S b 0 k) k 1 = zG S k 1 := zsl_o S b 0 k _ (fun g hg => by omega)
      have q1 := zRel_G (g := k) (k := 1) g1 ⟨by omega, by omega⟩ (by omega) (by omega) (zG (zsl S b 0 k) k 1 + zB (zsl S b 0 k) b (7 + k))
      have q2 := zRel_B (b := b) (k := 8 + k) (j := 7 + k) q1 (zN_up ⟨by omega, by omega⟩ (by omega)) (by rw [zn_up (by omega)]; omega) ⟨by omega, by omega⟩ (by rw [if_neg (by omega)]; omega) 0
      have e3 : zsl S b 0 (k + 1) = zup (zup (zsl S b 0 k) (150 + 5 * k + 1) (zG (zsl S b 0 k) k 1 + zB (zsl S b 0 k) b (7 + k))) (6 + 12 * b + (7 + k)) 0 := by
        rw [e1, e2]; rfl
      exact ih _ (by omega) (k + 1) _ rfl (by omega) (by rw [e3]; exact q2) (fun i h3 => by rw [← g2 i h3]; funext j; simp only [am_up, if_neg h3])
set_option maxRecDepth 100000 in
set_option maxHeartbeats 800000 in
theorem zs_X0_emptyChest_0 {d : Nat} {s : az_S} (hd : 3 ≤ d) {S : zR} (hR : zRel (s 3) S) (hS2 : ((zn S 2 : Nat) : Int) = S 2 ∧ zn S 2 ≤ 5 ∧ zn S 0 ≤ 10 ∧ zn S 1 ≤ 6) {b : Nat} (hb : b < zn S 0) : az_R d am_m_X0_emptyChest 0 (az_ini (am_mL am_m_X0_emptyChest) [az_r 4, az_i (((b : Nat) : Int)), az_i (1)]) [] (s) (fun o t => o = .inl none ∧ zRel (t 3) (zsl S b 0 (zn S 2)) ∧ ∀ i, i ≠ 3 → t i = s i) := by
  refine az_to 0 (pc2 := 0) (lv2 := [some (az_r 4), some (az_i (((b : Nat) : Int))), some (az_i (1)), none]) (st2 := []) (s2 := s) rfl ?_
  refine az_to 2 (pc2 := 2) (lv2 := [some (az_r 4), some (az_i (((b : Nat) : Int))), some (az_i (1)), some (az_i (0))]) (st2 := []) (s2 := s) rfl ?_
  exact zs_X0_emptyChest_0_L2 (by omega) hR hS2 hb _ 0 s rfl (by omega) hR (fun i _ => rfl)
set_option maxRecDepth 100000 in
set_option maxHeartbeats 800000 in
theorem zs_X0_emptyChest_1_L2 {d : Nat} {s : az_S} (hd : 3 ≤ d) {S : zR} (hR : zRel (s 3) S) (hS2 : ((zn S 2 : Nat) : Int) = S 2 ∧ zn S 2 ≤ 5 ∧ zn S 0 ≤ 10 ∧ zn S 1 ≤ 6) {b : Nat} (hb : b < zn S 0) : ∀ (m : Nat) (k : Nat) (u : az_S), m = zn S 2 - k → (k ≤ zn S 2) → (zRel (u 3) (zsl S b 1 k)) → (∀ i, i ≠ 3 → u i = s i) → az_R d am_m_X0_emptyChest 2 [some (az_r 4), some (az_i (((b : Nat) : Int))), some (az_i (0)), some (az_i (((k : Nat) : Int)))] [] (u) (fun o t => o = .inl none ∧ zRel (t 3) (zsl S b 1 (zn S 2)) ∧ ∀ i, i ≠ 3 → t i = s i) := by
  intro m
  induction m using Nat.strongRecOn with
  | _ m ih =>
    intro k u hm g0 g1 g2
    have g5 : u 3 4 = ((zn S 2 : Nat) : Int) := by rw [g1.1.2.2.2.2, zsl_o S b 1 k 2 (fun g hg => by omega), hS2.1]
    have hnk : zn (zsl S b 1 k) 0 = zn S 0 ∧ zn (zsl S b 1 k) 1 = zn S 1 := by unfold zn; rw [zsl_o S b 1 k 0 (fun g hg => by omega), zsl_o S b 1 k 1 (fun g hg => by omega)]; exact ⟨rfl, rfl⟩
    refine az_to 4 (pc2 := 8) (lv2 := [some (az_r 4), some (az_i (((b : Nat) : Int))), some (az_i (0)), some (az_i (((k : Nat) : Int)))]) (st2 := [az_i (4), az_r 1, az_i (((k : Nat) : Int))]) (s2 := u) rfl ?_
    refine az_clv (v := some (az_i (u 3 4))) (t := u) (m2 := am_m_X8_of) (as := [az_r 1, az_i (4)]) (rest := [az_i (((k : Nat) : Int))]) 11 rfl rfl ⟨rfl, rfl⟩ (by omega) (zs_X8_of_raw (s := u) (k := 4) (by omega) (by omega)) ?_
    refine az_to 0 (pc2 := 11) (lv2 := [some (az_r 4), some (az_i (((b : Nat) : Int))), some (az_i (0)), some (az_i (((k : Nat) : Int)))]) (st2 := [az_i (u 3 4), az_i (((k : Nat) : Int))]) (s2 := u) rfl ?_
    refine az_to 0 (pc2 := 11) (lv2 := [some (az_r 4), some (az_i (((b : Nat) : Int))), some (az_i (0)), some (az_i (((k : Nat) : Int)))]) (st2 := [az_i (((zn S 2 : Nat) : Int)), az_i (((k : Nat) : Int))]) (s2 := u) (by rw [g5]; rfl) ?_
    refine az_if2 55 14 rfl (by decide) (by first | assumption | exact ⟨by omega, by omega⟩) (by first | assumption | exact ⟨by omega, by omega⟩) (fun h1 => ?_) (fun h1 => ?_)
    · have h1 : ((zn S 2 : Nat) : Int) ≤ ((k : Nat) : Int) := h1
      refine az_ret0 rfl rfl ?_
      obtain rfl : k = zn S 2 := by omega
      exact ⟨rfl, g1, g2⟩
    · have h1 : ¬ (((zn S 2 : Nat) : Int) ≤ ((k : Nat) : Int)) := h1
      refine az_to 1 (pc2 := 15) (lv2 := [some (az_r 4), some (az_i (((b : Nat) : Int))), some (az_i (0)), some (az_i (((k : Nat) : Int)))]) (st2 := [az_i (0)]) (s2 := u) rfl ?_
      refine az_ifc 36 18 rfl (by decide) ⟨by decide, by decide⟩ (fun _ => ?_) (fun h => absurd (show az_cnd _ _ _ by unfold az_cnd; decide) h)
      refine az_to 7 (pc2 := 46) (lv2 := [some (az_r 4), some (az_i (((b : Nat) : Int))), some (az_i (0)), some (az_i (((k : Nat) : Int)))]) (st2 := [az_i (0), az_i ((8 + ((k : Nat) : Int))), az_i (((b : Nat) : Int)), az_r 1]) (s2 := u) rfl ?_
      refine az_clv (v := none) (t := am_up u 3 (5 + 13 * b + (8 + k)) 0) (m2 := am_m_X8_setBridge) (as := [az_r 1, az_i (((b : Nat) : Int)), az_i ((8 + ((k : Nat) : Int))), az_i (0)]) (rest := []) 49 rfl rfl ⟨rfl, rfl⟩ (by omega) (zs_X8_setBridge (s := u) (b := b) (k := (8 + k)) (v := 0) (by omega) (by omega) (by omega)) ?_
      refine az_to 0 (pc2 := 49) (lv2 := [some (az_r 4), some (az_i (((b : Nat) : Int))), some (az_i (0)), some (az_i (((k : Nat) : Int)))]) (st2 := []) (s2 := am_up u 3 (5 + 13 * b + (8 + k)) 0) rfl ?_
      refine az_to 2 (pc2 := 2) (lv2 := [some (az_r 4), some (az_i (((b : Nat) : Int))), some (az_i (0)), some (az_i ((((k : Nat) : Int) + 1)))]) (st2 := []) (s2 := am_up u 3 (5 + 13 * b + (8 + k)) 0) rfl ?_
      have e1 : zB (zsl S b 1 k) b (7 + k) = zB S b (7 + k) := zsl_o S b 1 k _ (fun g hg => by omega)
      have e2 : zG (zsl S b 1 k) k 1 = zG S k 1 := zsl_o S b 1 k _ (fun g hg => by omega)
      have q2 := zRel_B (b := b) (k := 8 + k) (j := 7 + k) g1 ⟨by omega, by omega⟩ (by omega) ⟨by omega, by omega⟩ (by rw [if_neg (by omega)]; omega) 0
      have e3 : zsl S b 1 (k + 1) = zup (zsl S b 1 k) (6 + 12 * b + (7 + k)) 0 := by
        show zup (zup (zsl S b 1 k) (150 + 5 * k + 1) _) _ _ = _
        rw [zup_self (i := 150 + 5 * k + 1) (S := zsl S b 1 k) (by show _ = zG (zsl S b 1 k) k 1; rw [e2, if_pos rfl, Int.add_zero])]
      exact ih _ (by omega) (k + 1) _ rfl (by omega) (by rw [e3]; exact q2) (fun i h3 => by rw [← g2 i h3]; funext j; simp only [am_up, if_neg h3])
set_option maxRecDepth 100000 in
set_option maxHeartbeats 800000 in
theorem zs_X0_emptyChest_1 {d : Nat} {s : az_S} (hd : 3 ≤ d) {S : zR} (hR : zRel (s 3) S) (hS2 : ((zn S 2 : Nat) : Int) = S 2 ∧ zn S 2 ≤ 5 ∧ zn S 0 ≤ 10 ∧ zn S 1 ≤ 6) {b : Nat} (hb : b < zn S 0) : az_R d am_m_X0_emptyChest 0 (az_ini (am_mL am_m_X0_emptyChest) [az_r 4, az_i (((b : Nat) : Int)), az_i (0)]) [] (s) (fun o t => o = .inl none ∧ zRel (t 3) (zsl S b 1 (zn S 2)) ∧ ∀ i, i ≠ 3 → t i = s i) := by
  refine az_to 0 (pc2 := 0) (lv2 := [some (az_r 4), some (az_i (((b : Nat) : Int))), some (az_i (0)), none]) (st2 := []) (s2 := s) rfl ?_
  refine az_to 2 (pc2 := 2) (lv2 := [some (az_r 4), some (az_i (((b : Nat) : Int))), some (az_i (0)), some (az_i (0))]) (st2 := []) (s2 := s) rfl ?_
  exact zs_X0_emptyChest_1_L2 (by omega) hR hS2 hb _ 0 s rfl (by omega) hR (fun i _ => rfl)
set_option maxRecDepth 100000 in
set_option maxHeartbeats 800000 in
theorem zs_X0_settleDispute_1 {d : Nat} {s : az_S} (hd : 4 ≤ d) {S : zR} {h : Nat} (hR : zRel (s 3) S) (hI : zInv S h) (hh : h ≤ 10000) {zb : Int} (h_zb : az_in zb) : az_R d am_m_X0_settleDispute 0 (az_ini (am_mL am_m_X0_settleDispute) [az_r 4, az_i (zb), az_i (1)]) [] (s) (zCq s (zo_settle S zb 1)) := by
  have hz := zI_h hI hh
  refine az_to 0 (pc2 := 0) (lv2 := [some (az_r 4), some (az_i (zb)), some (az_i (1)), none]) (st2 := []) (s2 := s) rfl ?_
  refine az_to 3 (pc2 := 5) (lv2 := [some (az_r 4), some (az_i (zb)), some (az_i (1)), none]) (st2 := [az_i (zb), az_r 1]) (s2 := s) rfl ?_
  refine az_clv (v := some (az_i (az_b (0 ≤ zb ∧ zb < ((zn S 0 : Nat) : Int))))) (t := s) (m2 := am_m_X8_isBridge) (as := [az_r 1, az_i (zb)]) (rest := []) 8 rfl rfl ⟨rfl, rfl⟩ (by omega) (zs_X8_isBridge (s := s) (z := zb) (by omega) hR hI hh (by first | assumption | exact ⟨by omega, by omega⟩)) ?_
  refine az_to 0 (pc2 := 8) (lv2 := [some (az_r 4), some (az_i (zb)), some (az_i (1)), none]) (st2 := [az_i (az_b (0 ≤ zb ∧ zb < ((zn S 0 : Nat) : Int)))]) (s2 := s) rfl ?_
  refine az_ifbn 19 11 rfl (by decide) (fun h1 => ?_) (fun h1 => ?_)
  · have h1 : 0 ≤ zb ∧ zb < ((zn S 0 : Nat) : Int) := h1
    obtain ⟨b, rfl⟩ : ∃ n0 : Nat, zb = n0 := ⟨zb.toNat, by omega⟩
    have hzb := zI_b hI hh (b := b) (by omega)
    have hzc2 := (hI.2.1 b (by omega)).2.2.2.2
    refine az_to 0 (pc2 := 19) (lv2 := [some (az_r 4), some (az_i (((b : Nat) : Int))), some (az_i (1)), none]) (st2 := []) (s2 := s) (rfl) ?_
    refine az_to 3 (pc2 := 24) (lv2 := [some (az_r 4), some (az_i (((b : Nat) : Int))), some (az_i (1)), none]) (st2 := [az_i (((b : Nat) : Int)), az_r 1]) (s2 := s) rfl ?_
    refine az_clv (v := some (az_i (az_b (0 ≤ zB S b 5)))) (t := s) (m2 := am_m_X8_isDisputed) (as := [az_r 1, az_i (((b : Nat) : Int))]) (rest := []) 27 rfl rfl ⟨rfl, rfl⟩ (by omega) (zs_X8_isDisputed (s := s) (b := b) (by omega) hR hI hh (by omega)) ?_
    refine az_to 0 (pc2 := 27) (lv2 := [some (az_r 4), some (az_i (((b : Nat) : Int))), some (az_i (1)), none]) (st2 := [az_i (az_b (0 ≤ zB S b 5))]) (s2 := s) rfl ?_
    refine az_ifbn 41 30 rfl (by decide) (fun h2 => ?_) (fun h2 => ?_)
    · have h2 : 0 ≤ zB S b 5 := h2
      refine az_to 3 (pc2 := 46) (lv2 := [some (az_r 4), some (az_i (((b : Nat) : Int))), some (az_i (1)), none]) (st2 := [az_i (((b : Nat) : Int)), az_r 1]) (s2 := s) rfl ?_
      refine az_clv (v := some (az_i (zch S b))) (t := s) (m2 := am_m_X8_coinsInChest) (as := [az_r 1, az_i (((b : Nat) : Int))]) (rest := []) 49 rfl rfl ⟨rfl, rfl⟩ (by omega) (zs_X8_coinsInChest (s := s) (b := b) (by omega) hR hI hh (by omega)) ?_
      refine az_to 0 (pc2 := 49) (lv2 := [some (az_r 4), some (az_i (((b : Nat) : Int))), some (az_i (1)), none]) (st2 := [az_i (zch S b)]) (s2 := s) rfl ?_
      have hzc := zch_5 hI (b := b) (by omega)
      have hTn : ∀ i, i < 3 → zsT S b 1 i = S i := fun i hi => by
        unfold zsT
        split
        · exact zup_ne _ _ (by omega)
        · rfl
      have hTz : zn (zsT S b 1) 0 = zn S 0 ∧ zn (zsT S b 1) 1 = zn S 1 ∧ zn (zsT S b 1) 2 = zn S 2 := by unfold zn; rw [hTn 0 (by omega), hTn 1 (by omega), hTn 2 (by omega)]; exact ⟨rfl, rfl, rfl⟩
      have hT2 := hTn 2 (by omega)
      refine az_to 2 (pc2 := 51) (lv2 := [some (az_r 4), some (az_i (((b : Nat) : Int))), some (az_i (1)), some (az_i (zch S b))]) (st2 := [az_i (1)]) (s2 := s) rfl ?_
      refine az_ifc 69 54 rfl (by decide) ⟨by decide, by decide⟩ (fun h => absurd h (by unfold az_cnd; decide)) (fun _ => ?_)
      refine az_to 5 (pc2 := 61) (lv2 := [some (az_r 4), some (az_i (((b : Nat) : Int))), some (az_i (1)), some (az_i (zch S b))]) (st2 := [az_i (4), az_i (((b : Nat) : Int)), az_r 1, az_r 4]) (s2 := s) rfl ?_
      refine az_clv (v := some (az_i (zat S b))) (t := s) (m2 := am_m_X8_ofBridge) (as := [az_r 1, az_i (((b : Nat) : Int)), az_i (4)]) (rest := [az_r 4]) 64 rfl rfl ⟨rfl, rfl⟩ (by omega) (zs_X8_ofBridge (s := s) (b := b) (k := 4) (by omega) hR (by omega) (by omega) (by omega)) ?_
      refine az_to 0 (pc2 := 64) (lv2 := [some (az_r 4), some (az_i (((b : Nat) : Int))), some (az_i (1)), some (az_i (zch S b))]) (st2 := [az_i (zat S b), az_r 4]) (s2 := s) rfl ?_
      obtain ⟨T, hT⟩ : ∃ n0 : Nat, zat S b = n0 := ⟨(zat S b).toNat, by omega⟩
      refine az_to 0 (pc2 := 64) (lv2 := [some (az_r 4), some (az_i (((b : Nat) : Int))), some (az_i (1)), some (az_i (zch S b))]) (st2 := [az_i (((T : Nat) : Int)), az_r 4]) (s2 := s) (by rw [hT]; rfl) ?_
      refine az_to 2 (pc2 := 66) (lv2 := [some (az_r 4), some (az_i (((b : Nat) : Int))), some (az_i (1)), some (az_i (zch S b))]) (st2 := [az_i (zch S b), az_i (1), az_i (((T : Nat) : Int)), az_r 4]) (s2 := s) rfl ?_
      refine az_clv (v := none) (t := am_up s 3 (135 + 4 * T + 1) (zT S T 1 + (zch S b))) (m2 := am_m_X0_addToTroll) (as := [az_r 4, az_i (((T : Nat) : Int)), az_i (1), az_i (zch S b)]) (rest := []) 69 rfl rfl ⟨rfl, rfl⟩ (by omega) (zs_X0_addToTroll (s := s) (t := T) (k := 1) (v := (zch S b)) (by omega) hR (by omega) (by omega)) ?_
      refine az_to 0 (pc2 := 69) (lv2 := [some (az_r 4), some (az_i (((b : Nat) : Int))), some (az_i (1)), some (az_i (zch S b))]) (st2 := []) (s2 := am_up s 3 (135 + 4 * T + 1) (zT S T 1 + (zch S b))) rfl ?_
      have hR1 : zRel ((am_up s 3 (135 + 4 * T + 1) (zT S T 1 + (zch S b))) 3) (zsT S b 1) := by
        have q := zRel_T (t := T) (k := 1) hR ⟨hz.1.1, hz.1.2.1⟩ (by omega) ⟨by omega, by omega⟩ (zT S T 1 + zch S b)
        unfold zsT
        rw [if_pos rfl, hT, Int.toNat_natCast, ← zch_5 hI (by omega)]
        exact q
      refine az_to 3 (pc2 := 72) (lv2 := [some (az_r 4), some (az_i (((b : Nat) : Int))), some (az_i (1)), some (az_i (zch S b))]) (st2 := [az_i (1), az_i (((b : Nat) : Int)), az_r 4]) (s2 := am_up s 3 (135 + 4 * T + 1) (zT S T 1 + (zch S b))) rfl ?_
      refine az_ifc 79 75 rfl (by decide) ⟨by decide, by decide⟩ (fun _ => ?_) (fun h => absurd (show az_cnd _ _ _ by unfold az_cnd; decide) h)
      refine az_to 1 (pc2 := 80) (lv2 := [some (az_r 4), some (az_i (((b : Nat) : Int))), some (az_i (1)), some (az_i (zch S b))]) (st2 := [az_i (0), az_i (((b : Nat) : Int)), az_r 4]) (s2 := am_up s 3 (135 + 4 * T + 1) (zT S T 1 + (zch S b))) rfl ?_
      refine az_cl (m2 := am_m_X0_emptyChest) (as := [az_r 4, az_i (((b : Nat) : Int)), az_i (0)]) (rest := []) 83 rfl rfl ⟨rfl, rfl⟩ (by omega) (zs_X0_emptyChest_1 (s := am_up s 3 (135 + 4 * T + 1) (zT S T 1 + (zch S b))) (b := b) (by omega) hR1 (by omega) (by omega)) (fun v1 t1 q1 => ?_) (fun E t1 q1 => by cases q1.1)
      obtain ⟨q1a, hR2, hF1⟩ := q1
      cases q1a
      refine az_to 0 (pc2 := 83) (lv2 := [some (az_r 4), some (az_i (((b : Nat) : Int))), some (az_i (1)), some (az_i (zch S b))]) (st2 := []) (s2 := t1) rfl ?_
      refine az_to 5 (pc2 := 91) (lv2 := [some (az_r 4), some (az_i (((b : Nat) : Int))), some (az_i (1)), some (az_i (zch S b))]) (st2 := [az_i (-1), az_i (6), az_i (((b : Nat) : Int)), az_r 1]) (s2 := t1) rfl ?_
      refine az_clv (v := none) (t := am_up t1 3 (5 + 13 * b + 6) (-1)) (m2 := am_m_X8_setBridge) (as := [az_r 1, az_i (((b : Nat) : Int)), az_i (6), az_i (-1)]) (rest := []) 94 rfl rfl ⟨rfl, rfl⟩ (by omega) (zs_X8_setBridge (s := t1) (b := b) (k := 6) (v := (-1)) (by omega) (by omega) (by omega)) ?_
      refine az_to 0 (pc2 := 94) (lv2 := [some (az_r 4), some (az_i (((b : Nat) : Int))), some (az_i (1)), some (az_i (zch S b))]) (st2 := []) (s2 := am_up t1 3 (5 + 13 * b + 6) (-1)) rfl ?_
      refine az_to 3 (pc2 := 99) (lv2 := [some (az_r 4), some (az_i (((b : Nat) : Int))), some (az_i (1)), some (az_i (zch S b))]) (st2 := [az_i (zch S b), az_r 5]) (s2 := am_up t1 3 (5 + 13 * b + 6) (-1)) rfl ?_
      refine az_clv (v := some (az_r 5)) (t := am_up (am_up (am_up t1 3 (5 + 13 * b + 6) (-1)) 5 0 (0)) 5 1 ((zch S b))) (m2 := am_m_X6_done) (as := [az_r 5, az_i (zch S b)]) (rest := []) 102 rfl rfl ⟨rfl, rfl⟩ (by omega) (zs_X6_done (s := am_up t1 3 (5 + 13 * b + 6) (-1)) (v := (zch S b)) (by omega) ) ?_
      refine az_to 0 (pc2 := 102) (lv2 := [some (az_r 4), some (az_i (((b : Nat) : Int))), some (az_i (1)), some (az_i (zch S b))]) (st2 := [az_r 5]) (s2 := am_up (am_up (am_up t1 3 (5 + 13 * b + 6) (-1)) 5 0 (0)) 5 1 ((zch S b))) rfl ?_
      refine az_retA rfl rfl ?_
      have e : zo_settle S ((b : Nat) : Int) 1 = (0, (zch S b), 0, zsS S b 1) := by
        simp only [zo_settle, Int.toNat_natCast]
        rw [if_neg (by omega), if_neg (by omega)]
        try rw [hzc]
      rw [e]
      exact ⟨rfl, ⟨(by
          have e5 : zsl (zsT S b 1) b 1 5 = zsl (zsT S b 1) b 1 (zn (zsT S b 1) 2) := zsl_5 (by omega) (fun g0 hg0 hg1 => by
            have q := (hI.2.2.1 b (by omega)).2.2.2.2.2.1 g0 hg0 (by omega)
            rw [← q]
            unfold zsT
            split
            · exact zup_ne _ _ (by omega)
            · rfl) (by omega)
          have hl : ∀ i, i < 2 → zsl (zsT S b 1) b 1 (zn (zsT S b 1) 2) i = S i := fun i hi => by rw [zsl_o _ _ _ _ _ (fun g hg => by omega), hTn i (by omega)]
          have n0 : zn (zsl (zsT S b 1) b 1 (zn (zsT S b 1) 2)) 0 = zn S 0 := congrArg Int.toNat (hl 0 (by omega))
          have n1 : zn (zsl (zsT S b 1) b 1 (zn (zsT S b 1) 2)) 1 = zn S 1 := congrArg Int.toNat (hl 1 (by omega))
          unfold zsS
          rw [e5]
          exact zRel_B (k := 6) (j := 5) hR2 ⟨by rw [n0]; omega, by rw [n1]; omega⟩ (by rw [n0]; omega) ⟨by omega, by omega⟩ rfl (-1)), rfl, fun _ => rfl, fun h => absurd (show (0 : Nat) = 3 from h) (by decide), (fun i h3 h5 => by
          funext j
          have q9 := congrFun (hF1 i h3) j
          simp only [am_up, if_neg h3, if_neg h5] at q9 ⊢
          exact q9)⟩⟩
    · have h2 : ¬ (0 ≤ zB S b 5) := h2
      refine az_to 4 (pc2 := 37) (lv2 := [some (az_r 4), some (az_i (((b : Nat) : Int))), some (az_i (1)), none]) (st2 := [az_i (((b : Nat) : Int)), az_i (11), az_r 5]) (s2 := s) rfl ?_
      refine az_clv (v := some (az_r 5)) (t := am_up (am_up (am_up s 5 0 (3)) 5 2 (11)) 5 3 ((((b : Nat) : Int)))) (m2 := am_m_X6_refused) (as := [az_r 5, az_i (11), az_i (((b : Nat) : Int))]) (rest := []) 40 rfl rfl ⟨rfl, rfl⟩ (by omega) (zs_X6_refused (s := s) (r := 11) (w := (((b : Nat) : Int))) (by omega) ) ?_
      refine az_to 0 (pc2 := 40) (lv2 := [some (az_r 4), some (az_i (((b : Nat) : Int))), some (az_i (1)), none]) (st2 := [az_r 5]) (s2 := am_up (am_up (am_up s 5 0 (3)) 5 2 (11)) 5 3 ((((b : Nat) : Int)))) rfl ?_
      refine az_retA rfl rfl ?_
      have e : zo_settle S ((b : Nat) : Int) 1 = (3, 11, (((b : Nat) : Int)), S) := by
        simp only [zo_settle, Int.toNat_natCast]
        first | (rw [if_pos (by omega)]) | (rw [if_neg (by omega), if_pos (by omega)]) | (rw [if_neg (by omega), if_neg (by omega), if_pos (by omega)]) | (rw [if_neg (by omega), if_neg (by omega), if_neg (by omega), if_pos (by omega)]) | (rw [if_neg (by omega), if_neg (by omega), if_neg (by omega), if_neg (by omega), if_pos (by omega)]) | (rw [if_neg (by omega), if_neg (by omega), if_neg (by omega), if_neg (by omega)]) | (rw [if_neg (by omega), if_neg (by omega), if_neg (by omega)]) | (rw [if_neg (by omega), if_neg (by omega)]) | (rw [if_neg (by omega)])
        try rw [hzc]
      rw [e]
      exact ⟨rfl, ⟨hR, rfl, fun h => absurd (show (3 : Nat) = 0 from h) (by decide), fun _ => ⟨rfl, rfl⟩, (fun i h3 h5 => by funext j; simp only [am_up, if_neg h3, if_neg h5])⟩⟩
  · have h1 : ¬ (0 ≤ zb ∧ zb < ((zn S 0 : Nat) : Int)) := h1
    refine az_to 2 (pc2 := 15) (lv2 := [some (az_r 4), some (az_i (zb)), some (az_i (1)), none]) (st2 := [az_r 5]) (s2 := s) rfl ?_
    refine az_clv (v := some (az_r 5)) (t := am_up s 5 0 (1)) (m2 := am_m_X6_noSuch) (as := [az_r 5]) (rest := []) 18 rfl rfl ⟨rfl, rfl⟩ (by omega) (zs_X6_noSuch (s := s)  (by omega) ) ?_
    refine az_to 0 (pc2 := 18) (lv2 := [some (az_r 4), some (az_i (zb)), some (az_i (1)), none]) (st2 := [az_r 5]) (s2 := am_up s 5 0 (1)) rfl ?_
    refine az_retA rfl rfl ?_
    have e : zo_settle S zb 1 = (1, 0, 0, S) := by
      simp only [zo_settle, Int.toNat_natCast]
      first | (rw [if_pos (by omega)]) | (rw [if_neg (by omega), if_pos (by omega)]) | (rw [if_neg (by omega), if_neg (by omega), if_pos (by omega)]) | (rw [if_neg (by omega), if_neg (by omega), if_neg (by omega), if_pos (by omega)]) | (rw [if_neg (by omega), if_neg (by omega), if_neg (by omega), if_neg (by omega), if_pos (by omega)]) | (rw [if_neg (by omega), if_neg (by omega), if_neg (by omega), if_neg (by omega)]) | (rw [if_neg (by omega), if_neg (by omega), if_neg (by omega)]) | (rw [if_neg (by omega), if_neg (by omega)]) | (rw [if_neg (by omega)])
      try rw [hzc]
    rw [e]
    exact ⟨rfl, ⟨hR, rfl, fun h => absurd (show (1 : Nat) = 0 from h) (by decide), fun h => absurd (show (1 : Nat) = 3 from h) (by decide), (fun i h3 h5 => by funext j; simp only [am_up, if_neg h3, if_neg h5])⟩⟩
set_option maxRecDepth 100000 in
set_option maxHeartbeats 800000 in
theorem zs_X0_settleDispute_0 {d : Nat} {s : az_S} (hd : 4 ≤ d) {S : zR} {h : Nat} (hR : zRel (s 3) S) (hI : zInv S h) (hh : h ≤ 10000) {zb : Int} (h_zb : az_in zb) : az_R d am_m_X0_settleDispute 0 (az_ini (am_mL am_m_X0_settleDispute) [az_r 4, az_i (zb), az_i (0)]) [] (s) (zCq s (zo_settle S zb 0)) := by
  have hz := zI_h hI hh
  refine az_to 0 (pc2 := 0) (lv2 := [some (az_r 4), some (az_i (zb)), some (az_i (0)), none]) (st2 := []) (s2 := s) rfl ?_
  refine az_to 3 (pc2 := 5) (lv2 := [some (az_r 4), some (az_i (zb)), some (az_i (0)), none]) (st2 := [az_i (zb), az_r 1]) (s2 := s) rfl ?_
  refine az_clv (v := some (az_i (az_b (0 ≤ zb ∧ zb < ((zn S 0 : Nat) : Int))))) (t := s) (m2 := am_m_X8_isBridge) (as := [az_r 1, az_i (zb)]) (rest := []) 8 rfl rfl ⟨rfl, rfl⟩ (by omega) (zs_X8_isBridge (s := s) (z := zb) (by omega) hR hI hh (by first | assumption | exact ⟨by omega, by omega⟩)) ?_
  refine az_to 0 (pc2 := 8) (lv2 := [some (az_r 4), some (az_i (zb)), some (az_i (0)), none]) (st2 := [az_i (az_b (0 ≤ zb ∧ zb < ((zn S 0 : Nat) : Int)))]) (s2 := s) rfl ?_
  refine az_ifbn 19 11 rfl (by decide) (fun h1 => ?_) (fun h1 => ?_)
  · have h1 : 0 ≤ zb ∧ zb < ((zn S 0 : Nat) : Int) := h1
    obtain ⟨b, rfl⟩ : ∃ n0 : Nat, zb = n0 := ⟨zb.toNat, by omega⟩
    have hzb := zI_b hI hh (b := b) (by omega)
    have hzc2 := (hI.2.1 b (by omega)).2.2.2.2
    refine az_to 0 (pc2 := 19) (lv2 := [some (az_r 4), some (az_i (((b : Nat) : Int))), some (az_i (0)), none]) (st2 := []) (s2 := s) (rfl) ?_
    refine az_to 3 (pc2 := 24) (lv2 := [some (az_r 4), some (az_i (((b : Nat) : Int))), some (az_i (0)), none]) (st2 := [az_i (((b : Nat) : Int)), az_r 1]) (s2 := s) rfl ?_
    refine az_clv (v := some (az_i (az_b (0 ≤ zB S b 5)))) (t := s) (m2 := am_m_X8_isDisputed) (as := [az_r 1, az_i (((b : Nat) : Int))]) (rest := []) 27 rfl rfl ⟨rfl, rfl⟩ (by omega) (zs_X8_isDisputed (s := s) (b := b) (by omega) hR hI hh (by omega)) ?_
    refine az_to 0 (pc2 := 27) (lv2 := [some (az_r 4), some (az_i (((b : Nat) : Int))), some (az_i (0)), none]) (st2 := [az_i (az_b (0 ≤ zB S b 5))]) (s2 := s) rfl ?_
    refine az_ifbn 41 30 rfl (by decide) (fun h2 => ?_) (fun h2 => ?_)
    · have h2 : 0 ≤ zB S b 5 := h2
      refine az_to 3 (pc2 := 46) (lv2 := [some (az_r 4), some (az_i (((b : Nat) : Int))), some (az_i (0)), none]) (st2 := [az_i (((b : Nat) : Int)), az_r 1]) (s2 := s) rfl ?_
      refine az_clv (v := some (az_i (zch S b))) (t := s) (m2 := am_m_X8_coinsInChest) (as := [az_r 1, az_i (((b : Nat) : Int))]) (rest := []) 49 rfl rfl ⟨rfl, rfl⟩ (by omega) (zs_X8_coinsInChest (s := s) (b := b) (by omega) hR hI hh (by omega)) ?_
      refine az_to 0 (pc2 := 49) (lv2 := [some (az_r 4), some (az_i (((b : Nat) : Int))), some (az_i (0)), none]) (st2 := [az_i (zch S b)]) (s2 := s) rfl ?_
      have hzc := zch_5 hI (b := b) (by omega)
      have hR1 : zRel (s 3) (zsT S b 0) := by
        unfold zsT
        rw [if_neg (by decide)]
        exact hR
      have hTn : ∀ i, i < 3 → zsT S b 0 i = S i := fun i hi => by
        unfold zsT
        split
        · exact zup_ne _ _ (by omega)
        · rfl
      have hTz : zn (zsT S b 0) 0 = zn S 0 ∧ zn (zsT S b 0) 1 = zn S 1 ∧ zn (zsT S b 0) 2 = zn S 2 := by unfold zn; rw [hTn 0 (by omega), hTn 1 (by omega), hTn 2 (by omega)]; exact ⟨rfl, rfl, rfl⟩
      have hT2 := hTn 2 (by omega)
      refine az_to 2 (pc2 := 51) (lv2 := [some (az_r 4), some (az_i (((b : Nat) : Int))), some (az_i (0)), some (az_i (zch S b))]) (st2 := [az_i (0)]) (s2 := s) rfl ?_
      refine az_ifc 69 54 rfl (by decide) ⟨by decide, by decide⟩ (fun _ => ?_) (fun h => absurd (show az_cnd _ _ _ by unfold az_cnd; decide) h)
      refine az_to 3 (pc2 := 72) (lv2 := [some (az_r 4), some (az_i (((b : Nat) : Int))), some (az_i (0)), some (az_i (zch S b))]) (st2 := [az_i (0), az_i (((b : Nat) : Int)), az_r 4]) (s2 := s) rfl ?_
      refine az_ifc 79 75 rfl (by decide) ⟨by decide, by decide⟩ (fun h => absurd h (by unfold az_cnd; decide)) (fun _ => ?_)
      refine az_to 2 (pc2 := 80) (lv2 := [some (az_r 4), some (az_i (((b : Nat) : Int))), some (az_i (0)), some (az_i (zch S b))]) (st2 := [az_i (1), az_i (((b : Nat) : Int)), az_r 4]) (s2 := s) rfl ?_
      refine az_cl (m2 := am_m_X0_emptyChest) (as := [az_r 4, az_i (((b : Nat) : Int)), az_i (1)]) (rest := []) 83 rfl rfl ⟨rfl, rfl⟩ (by omega) (zs_X0_emptyChest_0 (s := s) (b := b) (by omega) hR1 (by omega) (by omega)) (fun v1 t1 q1 => ?_) (fun E t1 q1 => by cases q1.1)
      obtain ⟨q1a, hR2, hF1⟩ := q1
      cases q1a
      refine az_to 0 (pc2 := 83) (lv2 := [some (az_r 4), some (az_i (((b : Nat) : Int))), some (az_i (0)), some (az_i (zch S b))]) (st2 := []) (s2 := t1) rfl ?_
      refine az_to 5 (pc2 := 91) (lv2 := [some (az_r 4), some (az_i (((b : Nat) : Int))), some (az_i (0)), some (az_i (zch S b))]) (st2 := [az_i (-1), az_i (6), az_i (((b : Nat) : Int)), az_r 1]) (s2 := t1) rfl ?_
      refine az_clv (v := none) (t := am_up t1 3 (5 + 13 * b + 6) (-1)) (m2 := am_m_X8_setBridge) (as := [az_r 1, az_i (((b : Nat) : Int)), az_i (6), az_i (-1)]) (rest := []) 94 rfl rfl ⟨rfl, rfl⟩ (by omega) (zs_X8_setBridge (s := t1) (b := b) (k := 6) (v := (-1)) (by omega) (by omega) (by omega)) ?_
      refine az_to 0 (pc2 := 94) (lv2 := [some (az_r 4), some (az_i (((b : Nat) : Int))), some (az_i (0)), some (az_i (zch S b))]) (st2 := []) (s2 := am_up t1 3 (5 + 13 * b + 6) (-1)) rfl ?_
      refine az_to 3 (pc2 := 99) (lv2 := [some (az_r 4), some (az_i (((b : Nat) : Int))), some (az_i (0)), some (az_i (zch S b))]) (st2 := [az_i (zch S b), az_r 5]) (s2 := am_up t1 3 (5 + 13 * b + 6) (-1)) rfl ?_
      refine az_clv (v := some (az_r 5)) (t := am_up (am_up (am_up t1 3 (5 + 13 * b + 6) (-1)) 5 0 (0)) 5 1 ((zch S b))) (m2 := am_m_X6_done) (as := [az_r 5, az_i (zch S b)]) (rest := []) 102 rfl rfl ⟨rfl, rfl⟩ (by omega) (zs_X6_done (s := am_up t1 3 (5 + 13 * b + 6) (-1)) (v := (zch S b)) (by omega) ) ?_
      refine az_to 0 (pc2 := 102) (lv2 := [some (az_r 4), some (az_i (((b : Nat) : Int))), some (az_i (0)), some (az_i (zch S b))]) (st2 := [az_r 5]) (s2 := am_up (am_up (am_up t1 3 (5 + 13 * b + 6) (-1)) 5 0 (0)) 5 1 ((zch S b))) rfl ?_
      refine az_retA rfl rfl ?_
      have e : zo_settle S ((b : Nat) : Int) 0 = (0, (zch S b), 0, zsS S b 0) := by
        simp only [zo_settle, Int.toNat_natCast]
        rw [if_neg (by omega), if_neg (by omega)]
        try rw [hzc]
      rw [e]
      exact ⟨rfl, ⟨(by
          have e5 : zsl (zsT S b 0) b 0 5 = zsl (zsT S b 0) b 0 (zn (zsT S b 0) 2) := zsl_5 (by omega) (fun g0 hg0 hg1 => by
            have q := (hI.2.2.1 b (by omega)).2.2.2.2.2.1 g0 hg0 (by omega)
            rw [← q]
            unfold zsT
            split
            · exact zup_ne _ _ (by omega)
            · rfl) (by omega)
          have hl : ∀ i, i < 2 → zsl (zsT S b 0) b 0 (zn (zsT S b 0) 2) i = S i := fun i hi => by rw [zsl_o _ _ _ _ _ (fun g hg => by omega), hTn i (by omega)]
          have n0 : zn (zsl (zsT S b 0) b 0 (zn (zsT S b 0) 2)) 0 = zn S 0 := congrArg Int.toNat (hl 0 (by omega))
          have n1 : zn (zsl (zsT S b 0) b 0 (zn (zsT S b 0) 2)) 1 = zn S 1 := congrArg Int.toNat (hl 1 (by omega))
          unfold zsS
          rw [e5]
          exact zRel_B (k := 6) (j := 5) hR2 ⟨by rw [n0]; omega, by rw [n1]; omega⟩ (by rw [n0]; omega) ⟨by omega, by omega⟩ rfl (-1)), rfl, fun _ => rfl, fun h => absurd (show (0 : Nat) = 3 from h) (by decide), (fun i h3 h5 => by
          funext j
          have q9 := congrFun (hF1 i h3) j
          simp only [am_up, if_neg h3, if_neg h5] at q9 ⊢
          exact q9)⟩⟩
    · have h2 : ¬ (0 ≤ zB S b 5) := h2
      refine az_to 4 (pc2 := 37) (lv2 := [some (az_r 4), some (az_i (((b : Nat) : Int))), some (az_i (0)), none]) (st2 := [az_i (((b : Nat) : Int)), az_i (11), az_r 5]) (s2 := s) rfl ?_
      refine az_clv (v := some (az_r 5)) (t := am_up (am_up (am_up s 5 0 (3)) 5 2 (11)) 5 3 ((((b : Nat) : Int)))) (m2 := am_m_X6_refused) (as := [az_r 5, az_i (11), az_i (((b : Nat) : Int))]) (rest := []) 40 rfl rfl ⟨rfl, rfl⟩ (by omega) (zs_X6_refused (s := s) (r := 11) (w := (((b : Nat) : Int))) (by omega) ) ?_
      refine az_to 0 (pc2 := 40) (lv2 := [some (az_r 4), some (az_i (((b : Nat) : Int))), some (az_i (0)), none]) (st2 := [az_r 5]) (s2 := am_up (am_up (am_up s 5 0 (3)) 5 2 (11)) 5 3 ((((b : Nat) : Int)))) rfl ?_
      refine az_retA rfl rfl ?_
      have e : zo_settle S ((b : Nat) : Int) 0 = (3, 11, (((b : Nat) : Int)), S) := by
        simp only [zo_settle, Int.toNat_natCast]
        first | (rw [if_pos (by omega)]) | (rw [if_neg (by omega), if_pos (by omega)]) | (rw [if_neg (by omega), if_neg (by omega), if_pos (by omega)]) | (rw [if_neg (by omega), if_neg (by omega), if_neg (by omega), if_pos (by omega)]) | (rw [if_neg (by omega), if_neg (by omega), if_neg (by omega), if_neg (by omega), if_pos (by omega)]) | (rw [if_neg (by omega), if_neg (by omega), if_neg (by omega), if_neg (by omega)]) | (rw [if_neg (by omega), if_neg (by omega), if_neg (by omega)]) | (rw [if_neg (by omega), if_neg (by omega)]) | (rw [if_neg (by omega)])
        try rw [hzc]
      rw [e]
      exact ⟨rfl, ⟨hR, rfl, fun h => absurd (show (3 : Nat) = 0 from h) (by decide), fun _ => ⟨rfl, rfl⟩, (fun i h3 h5 => by funext j; simp only [am_up, if_neg h3, if_neg h5])⟩⟩
  · have h1 : ¬ (0 ≤ zb ∧ zb < ((zn S 0 : Nat) : Int)) := h1
    refine az_to 2 (pc2 := 15) (lv2 := [some (az_r 4), some (az_i (zb)), some (az_i (0)), none]) (st2 := [az_r 5]) (s2 := s) rfl ?_
    refine az_clv (v := some (az_r 5)) (t := am_up s 5 0 (1)) (m2 := am_m_X6_noSuch) (as := [az_r 5]) (rest := []) 18 rfl rfl ⟨rfl, rfl⟩ (by omega) (zs_X6_noSuch (s := s)  (by omega) ) ?_
    refine az_to 0 (pc2 := 18) (lv2 := [some (az_r 4), some (az_i (zb)), some (az_i (0)), none]) (st2 := [az_r 5]) (s2 := am_up s 5 0 (1)) rfl ?_
    refine az_retA rfl rfl ?_
    have e : zo_settle S zb 0 = (1, 0, 0, S) := by
      simp only [zo_settle, Int.toNat_natCast]
      first | (rw [if_pos (by omega)]) | (rw [if_neg (by omega), if_pos (by omega)]) | (rw [if_neg (by omega), if_neg (by omega), if_pos (by omega)]) | (rw [if_neg (by omega), if_neg (by omega), if_neg (by omega), if_pos (by omega)]) | (rw [if_neg (by omega), if_neg (by omega), if_neg (by omega), if_neg (by omega), if_pos (by omega)]) | (rw [if_neg (by omega), if_neg (by omega), if_neg (by omega), if_neg (by omega)]) | (rw [if_neg (by omega), if_neg (by omega), if_neg (by omega)]) | (rw [if_neg (by omega), if_neg (by omega)]) | (rw [if_neg (by omega)])
      try rw [hzc]
    rw [e]
    exact ⟨rfl, ⟨hR, rfl, fun h => absurd (show (1 : Nat) = 0 from h) (by decide), fun h => absurd (show (1 : Nat) = 3 from h) (by decide), (fun i h3 h5 => by funext j; simp only [am_up, if_neg h3, if_neg h5])⟩⟩

