/-! CLASS, 2: orders, ends, copies, verdicts, refusals, history; written by program (wip/tools/zg/s2.py) -/
set_option maxRecDepth 100000 in
set_option maxHeartbeats 800000 in
theorem zs_X8_ofBridge_i {d : Nat} {s : az_S} (hd : 1 ≤ d) {S : zR} (hR : zRel (s 3) S) {z : Int} {k : Nat} (hz0 : 0 ≤ z ∧ z < ((zn S 0 : Nat) : Int)) (hz1 : zn S 0 ≤ 10) (hk : k < 13) : az_R d am_m_X8_ofBridge 0 (az_ini (am_mL am_m_X8_ofBridge) [az_r 1, az_i (z), az_i (((k : Nat) : Int))]) [] (s) (az_ret (some (az_i (zcb S z.toNat k))) (s)) := by
  obtain ⟨b, rfl⟩ : ∃ b : Nat, z = b := ⟨z.toNat, by omega⟩
  exact zs_X8_ofBridge hd hR (by omega) (by omega) hk
set_option maxRecDepth 100000 in
set_option maxHeartbeats 800000 in
theorem zs_X8_crossedAt {d : Nat} {s : az_S} (hd : 2 ≤ d) {S : zR} {h : Nat} (hR : zRel (s 3) S) (hI : zInv S h) (hh : h ≤ 10000) {t : Nat} (ht : t < zn S 1) : az_R d am_m_X8_crossedAt 0 (az_ini (am_mL am_m_X8_crossedAt) [az_r 1, az_i (((t : Nat) : Int))]) [] (s) (az_ret (some (az_i (zcw S t))) (s)) := by
  have hz := zI_h hI hh
  have hzt := zI_t hI hh (t := t) (by omega)
  have hzu := hI.2.2.2.2.2.1 t ht
  refine az_to 0 (pc2 := 0) (lv2 := [some (az_r 1), some (az_i (((t : Nat) : Int))), none]) (st2 := []) (s2 := s) rfl ?_
  refine az_to 3 (pc2 := 3) (lv2 := [some (az_r 1), some (az_i (((t : Nat) : Int))), none]) (st2 := [az_i (0), az_i (((t : Nat) : Int)), az_r 1]) (s2 := s) rfl ?_
  refine az_clv (v := some (az_i (zT S t 0))) (t := s) (m2 := am_m_X8_ofTroll) (as := [az_r 1, az_i (((t : Nat) : Int)), az_i (0)]) (rest := []) 6 rfl rfl ⟨rfl, rfl⟩ (by omega) (zs_X8_ofTroll (s := s) (t := t) (k := 0) (by omega) hR (by omega) (by omega)) ?_
  refine az_to 0 (pc2 := 6) (lv2 := [some (az_r 1), some (az_i (((t : Nat) : Int))), none]) (st2 := [az_i (zT S t 0)]) (s2 := s) rfl ?_
  refine az_to 3 (pc2 := 9) (lv2 := [some (az_r 1), some (az_i (((t : Nat) : Int))), some (az_i (zT S t 0))]) (st2 := [az_i (-1), az_i (zT S t 0)]) (s2 := s) rfl ?_
  refine az_if2 16 12 rfl (by decide) (by first | assumption | exact ⟨by omega, by omega⟩) ⟨by decide, by decide⟩ (fun h1 => ?_) (fun h1 => ?_)
  · have h1 : ¬ zT S t 0 = -1 := h1
    refine az_to 3 (pc2 := 20) (lv2 := [some (az_r 1), some (az_i (((t : Nat) : Int))), some (az_i (zT S t 0))]) (st2 := [az_i (7), az_i (zT S t 0), az_r 1]) (s2 := s) rfl ?_
    refine az_clv (v := some (az_i (zB S (zT S t 0).toNat 6))) (t := s) (m2 := am_m_X8_ofBridge) (as := [az_r 1, az_i (zT S t 0), az_i (7)]) (rest := []) 23 rfl rfl ⟨rfl, rfl⟩ (by omega) (zs_X8_ofBridge_i (s := s) (z := (zT S t 0)) (k := 7) (by omega) hR (by omega) (by omega) (by omega)) ?_
    refine az_to 0 (pc2 := 23) (lv2 := [some (az_r 1), some (az_i (((t : Nat) : Int))), some (az_i (zT S t 0))]) (st2 := [az_i (zB S (zT S t 0).toNat 6)]) (s2 := s) rfl ?_
    refine az_retI rfl rfl ?_
    exact ⟨by unfold zcw; simp only [*, if_true, if_false], rfl⟩
  · have h1 : zT S t 0 = -1 := Decidable.not_not.mp h1
    refine az_to 2 (pc2 := 23) (lv2 := [some (az_r 1), some (az_i (((t : Nat) : Int))), some (az_i (zT S t 0))]) (st2 := [az_i (0)]) (s2 := s) rfl ?_
    refine az_retI rfl rfl ?_
    exact ⟨by unfold zcw; simp only [*, if_true, if_false], rfl⟩
set_option maxRecDepth 100000 in
set_option maxHeartbeats 800000 in
theorem zs_X8_isRicher {d : Nat} {s : az_S} (hd : 3 ≤ d) {S : zR} {h : Nat} (hR : zRel (s 3) S) (hI : zInv S h) (hh : h ≤ 10000) {t u : Nat} (ht : t < zn S 1) (hu : u < zn S 1) : az_R d am_m_X8_isRicher 0 (az_ini (am_mL am_m_X8_isRicher) [az_r 1, az_i (((t : Nat) : Int)), az_i (((u : Nat) : Int))]) [] (s) (az_ret (some (az_i (az_b (zric S t u)))) (s)) := by
  have hz := zI_h hI hh
  have hzt := zI_t hI hh (t := t) (by omega)
  have hzu := zI_t hI hh (t := u) (by omega)
  have hwt := zcw_r hI hh ht
  have hwu := zcw_r hI hh hu
  refine az_to 0 (pc2 := 0) (lv2 := [some (az_r 1), some (az_i (((t : Nat) : Int))), some (az_i (((u : Nat) : Int))), none, none]) (st2 := []) (s2 := s) rfl ?_
  refine az_to 3 (pc2 := 3) (lv2 := [some (az_r 1), some (az_i (((t : Nat) : Int))), some (az_i (((u : Nat) : Int))), none, none]) (st2 := [az_i (1), az_i (((t : Nat) : Int)), az_r 1]) (s2 := s) rfl ?_
  refine az_clv (v := some (az_i (zT S t 1))) (t := s) (m2 := am_m_X8_ofTroll) (as := [az_r 1, az_i (((t : Nat) : Int)), az_i (1)]) (rest := []) 6 rfl rfl ⟨rfl, rfl⟩ (by omega) (zs_X8_ofTroll (s := s) (t := t) (k := 1) (by omega) hR (by omega) (by omega)) ?_
  refine az_to 0 (pc2 := 6) (lv2 := [some (az_r 1), some (az_i (((t : Nat) : Int))), some (az_i (((u : Nat) : Int))), none, none]) (st2 := [az_i (zT S t 1)]) (s2 := s) rfl ?_
  refine az_to 3 (pc2 := 9) (lv2 := [some (az_r 1), some (az_i (((t : Nat) : Int))), some (az_i (((u : Nat) : Int))), none, none]) (st2 := [az_i (1), az_i (((u : Nat) : Int)), az_r 1, az_i (zT S t 1)]) (s2 := s) rfl ?_
  refine az_clv (v := some (az_i (zT S u 1))) (t := s) (m2 := am_m_X8_ofTroll) (as := [az_r 1, az_i (((u : Nat) : Int)), az_i (1)]) (rest := [az_i (zT S t 1)]) 12 rfl rfl ⟨rfl, rfl⟩ (by omega) (zs_X8_ofTroll (s := s) (t := u) (k := 1) (by omega) hR (by omega) (by omega)) ?_
  refine az_to 0 (pc2 := 12) (lv2 := [some (az_r 1), some (az_i (((t : Nat) : Int))), some (az_i (((u : Nat) : Int))), none, none]) (st2 := [az_i (zT S u 1), az_i (zT S t 1)]) (s2 := s) rfl ?_
  refine az_to 4 (pc2 := 16) (lv2 := [some (az_r 1), some (az_i (((t : Nat) : Int))), some (az_i (((u : Nat) : Int))), some (az_i ((zT S t 1 - zT S u 1))), none]) (st2 := [az_i (((t : Nat) : Int)), az_r 1]) (s2 := s) rfl ?_
  refine az_clv (v := some (az_i (zcw S t))) (t := s) (m2 := am_m_X8_crossedAt) (as := [az_r 1, az_i (((t : Nat) : Int))]) (rest := []) 19 rfl rfl ⟨rfl, rfl⟩ (by omega) (zs_X8_crossedAt (s := s) (t := t) (by omega) hR hI hh (by omega)) ?_
  refine az_to 0 (pc2 := 19) (lv2 := [some (az_r 1), some (az_i (((t : Nat) : Int))), some (az_i (((u : Nat) : Int))), some (az_i ((zT S t 1 - zT S u 1))), none]) (st2 := [az_i (zcw S t)]) (s2 := s) rfl ?_
  refine az_to 2 (pc2 := 21) (lv2 := [some (az_r 1), some (az_i (((t : Nat) : Int))), some (az_i (((u : Nat) : Int))), some (az_i ((zT S t 1 - zT S u 1))), none]) (st2 := [az_i (((u : Nat) : Int)), az_r 1, az_i (zcw S t)]) (s2 := s) rfl ?_
  refine az_clv (v := some (az_i (zcw S u))) (t := s) (m2 := am_m_X8_crossedAt) (as := [az_r 1, az_i (((u : Nat) : Int))]) (rest := [az_i (zcw S t)]) 24 rfl rfl ⟨rfl, rfl⟩ (by omega) (zs_X8_crossedAt (s := s) (t := u) (by omega) hR hI hh (by omega)) ?_
  refine az_to 0 (pc2 := 24) (lv2 := [some (az_r 1), some (az_i (((t : Nat) : Int))), some (az_i (((u : Nat) : Int))), some (az_i ((zT S t 1 - zT S u 1))), none]) (st2 := [az_i (zcw S u), az_i (zcw S t)]) (s2 := s) rfl ?_
  refine az_to 3 (pc2 := 28) (lv2 := [some (az_r 1), some (az_i (((t : Nat) : Int))), some (az_i (((u : Nat) : Int))), some (az_i ((zT S t 1 - zT S u 1))), some (az_i ((zcw S t - zcw S u)))]) (st2 := [az_i ((zT S t 1 - zT S u 1))]) (s2 := s) rfl ?_
  refine az_ifc 41 31 rfl (by decide) (by first | assumption | exact ⟨by omega, by omega⟩) (fun h1 => ?_) (fun h1 => ?_)
  · have h1 : (zT S t 1 - zT S u 1) = 0 := h1
    refine az_to 1 (pc2 := 43) (lv2 := [some (az_r 1), some (az_i (((t : Nat) : Int))), some (az_i (((u : Nat) : Int))), some (az_i ((zT S t 1 - zT S u 1))), some (az_i ((zcw S t - zcw S u)))]) (st2 := [az_i ((zcw S t - zcw S u))]) (s2 := s) rfl ?_
    refine az_ifc 59 46 rfl (by decide) (by first | assumption | exact ⟨by omega, by omega⟩) (fun h2 => ?_) (fun h2 => ?_)
    · have h2 : (zcw S t - zcw S u) = 0 := h2
      refine az_to 2 (pc2 := 61) (lv2 := [some (az_r 1), some (az_i (((t : Nat) : Int))), some (az_i (((u : Nat) : Int))), some (az_i ((zT S t 1 - zT S u 1))), some (az_i ((zcw S t - zcw S u)))]) (st2 := [az_i (((u : Nat) : Int)), az_i (((t : Nat) : Int))]) (s2 := s) rfl ?_
      refine az_if2 68 64 rfl (by decide) (by first | assumption | exact ⟨by omega, by omega⟩) (by first | assumption | exact ⟨by omega, by omega⟩) (fun h3 => ?_) (fun h3 => ?_)
      · have h3 : ((u : Nat) : Int) ≤ ((t : Nat) : Int) := h3
        refine az_to 1 (pc2 := 69) (lv2 := [some (az_r 1), some (az_i (((t : Nat) : Int))), some (az_i (((u : Nat) : Int))), some (az_i ((zT S t 1 - zT S u 1))), some (az_i ((zcw S t - zcw S u)))]) (st2 := [az_i (0)]) (s2 := s) rfl ?_
        refine az_retB rfl rfl (by first | decide | omega | exact Or.inl rfl | exact Or.inr rfl) ?_
        exact ⟨by rw [az_b0 (by unfold zric; first | (rw [if_pos (by omega)]; omega) | (rw [if_neg (by omega), if_pos (by omega)]; omega) | (rw [if_neg (by omega), if_neg (by omega)]; omega))], rfl⟩
      · have h3 : ¬ (((u : Nat) : Int) ≤ ((t : Nat) : Int)) := h3
        refine az_to 2 (pc2 := 69) (lv2 := [some (az_r 1), some (az_i (((t : Nat) : Int))), some (az_i (((u : Nat) : Int))), some (az_i ((zT S t 1 - zT S u 1))), some (az_i ((zcw S t - zcw S u)))]) (st2 := [az_i (1)]) (s2 := s) rfl ?_
        refine az_retB rfl rfl (by first | decide | omega | exact Or.inl rfl | exact Or.inr rfl) ?_
        exact ⟨by rw [az_b1 (by unfold zric; first | (rw [if_pos (by omega)]; omega) | (rw [if_neg (by omega), if_pos (by omega)]; omega) | (rw [if_neg (by omega), if_neg (by omega)]; omega))], rfl⟩
    · have h2 : ¬ ((zcw S t - zcw S u) = 0) := h2
      refine az_to 1 (pc2 := 48) (lv2 := [some (az_r 1), some (az_i (((t : Nat) : Int))), some (az_i (((u : Nat) : Int))), some (az_i ((zT S t 1 - zT S u 1))), some (az_i ((zcw S t - zcw S u)))]) (st2 := [az_i ((zcw S t - zcw S u))]) (s2 := s) rfl ?_
      refine az_ifc 55 51 rfl (by decide) (by first | assumption | exact ⟨by omega, by omega⟩) (fun h4 => ?_) (fun h4 => ?_)
      · have h4 : (zcw S t - zcw S u) ≤ 0 := h4
        refine az_to 2 (pc2 := 69) (lv2 := [some (az_r 1), some (az_i (((t : Nat) : Int))), some (az_i (((u : Nat) : Int))), some (az_i ((zT S t 1 - zT S u 1))), some (az_i ((zcw S t - zcw S u)))]) (st2 := [az_i (0)]) (s2 := s) rfl ?_
        refine az_retB rfl rfl (by first | decide | omega | exact Or.inl rfl | exact Or.inr rfl) ?_
        exact ⟨by rw [az_b0 (by unfold zric; first | (rw [if_pos (by omega)]; omega) | (rw [if_neg (by omega), if_pos (by omega)]; omega) | (rw [if_neg (by omega), if_neg (by omega)]; omega))], rfl⟩
      · have h4 : ¬ ((zcw S t - zcw S u) ≤ 0) := h4
        refine az_to 2 (pc2 := 69) (lv2 := [some (az_r 1), some (az_i (((t : Nat) : Int))), some (az_i (((u : Nat) : Int))), some (az_i ((zT S t 1 - zT S u 1))), some (az_i ((zcw S t - zcw S u)))]) (st2 := [az_i (1)]) (s2 := s) rfl ?_
        refine az_retB rfl rfl (by first | decide | omega | exact Or.inl rfl | exact Or.inr rfl) ?_
        exact ⟨by rw [az_b1 (by unfold zric; first | (rw [if_pos (by omega)]; omega) | (rw [if_neg (by omega), if_pos (by omega)]; omega) | (rw [if_neg (by omega), if_neg (by omega)]; omega))], rfl⟩
  · have h1 : ¬ ((zT S t 1 - zT S u 1) = 0) := h1
    refine az_to 1 (pc2 := 32) (lv2 := [some (az_r 1), some (az_i (((t : Nat) : Int))), some (az_i (((u : Nat) : Int))), some (az_i ((zT S t 1 - zT S u 1))), some (az_i ((zcw S t - zcw S u)))]) (st2 := [az_i ((zT S t 1 - zT S u 1))]) (s2 := s) rfl ?_
    refine az_ifc 39 35 rfl (by decide) (by first | assumption | exact ⟨by omega, by omega⟩) (fun h5 => ?_) (fun h5 => ?_)
    · have h5 : (zT S t 1 - zT S u 1) ≤ 0 := h5
      refine az_to 1 (pc2 := 40) (lv2 := [some (az_r 1), some (az_i (((t : Nat) : Int))), some (az_i (((u : Nat) : Int))), some (az_i ((zT S t 1 - zT S u 1))), some (az_i ((zcw S t - zcw S u)))]) (st2 := [az_i (0)]) (s2 := s) rfl ?_
      refine az_retB rfl rfl (by first | decide | omega | exact Or.inl rfl | exact Or.inr rfl) ?_
      exact ⟨by rw [az_b0 (by unfold zric; first | (rw [if_pos (by omega)]; omega) | (rw [if_neg (by omega), if_pos (by omega)]; omega) | (rw [if_neg (by omega), if_neg (by omega)]; omega))], rfl⟩
    · have h5 : ¬ ((zT S t 1 - zT S u 1) ≤ 0) := h5
      refine az_to 2 (pc2 := 40) (lv2 := [some (az_r 1), some (az_i (((t : Nat) : Int))), some (az_i (((u : Nat) : Int))), some (az_i ((zT S t 1 - zT S u 1))), some (az_i ((zcw S t - zcw S u)))]) (st2 := [az_i (1)]) (s2 := s) rfl ?_
      refine az_retB rfl rfl (by first | decide | omega | exact Or.inl rfl | exact Or.inr rfl) ?_
      exact ⟨by rw [az_b1 (by unfold zric; first | (rw [if_pos (by omega)]; omega) | (rw [if_neg (by omega), if_pos (by omega)]; omega) | (rw [if_neg (by omega), if_neg (by omega)]; omega))], rfl⟩
set_option maxRecDepth 100000 in
set_option maxHeartbeats 800000 in
theorem zs_X8_isMoreTired {d : Nat} {s : az_S} (hd : 2 ≤ d) {S : zR} {h : Nat} (hR : zRel (s 3) S) (hI : zInv S h) (hh : h ≤ 10000) {t u : Nat} (ht : t < zn S 2) (hu : u < zn S 2) : az_R d am_m_X8_isMoreTired 0 (az_ini (am_mL am_m_X8_isMoreTired) [az_r 1, az_i (((t : Nat) : Int)), az_i (((u : Nat) : Int))]) [] (s) (az_ret (some (az_i (az_b (ztir S t u)))) (s)) := by
  have hz := zI_h hI hh
  have hzt := zI_g hI hh (g := t) (by omega)
  have hzu := zI_g hI hh (g := u) (by omega)
  refine az_to 0 (pc2 := 0) (lv2 := [some (az_r 1), some (az_i (((t : Nat) : Int))), some (az_i (((u : Nat) : Int))), none, none]) (st2 := []) (s2 := s) rfl ?_
  refine az_to 3 (pc2 := 3) (lv2 := [some (az_r 1), some (az_i (((t : Nat) : Int))), some (az_i (((u : Nat) : Int))), none, none]) (st2 := [az_i (3), az_i (((t : Nat) : Int)), az_r 1]) (s2 := s) rfl ?_
  refine az_clv (v := some (az_i (zG S t 3))) (t := s) (m2 := am_m_X8_ofGoat) (as := [az_r 1, az_i (((t : Nat) : Int)), az_i (3)]) (rest := []) 6 rfl rfl ⟨rfl, rfl⟩ (by omega) (zs_X8_ofGoat (s := s) (g := t) (k := 3) (by omega) hR (by omega) (by omega)) ?_
  refine az_to 0 (pc2 := 6) (lv2 := [some (az_r 1), some (az_i (((t : Nat) : Int))), some (az_i (((u : Nat) : Int))), none, none]) (st2 := [az_i (zG S t 3)]) (s2 := s) rfl ?_
  refine az_to 3 (pc2 := 9) (lv2 := [some (az_r 1), some (az_i (((t : Nat) : Int))), some (az_i (((u : Nat) : Int))), none, none]) (st2 := [az_i (3), az_i (((u : Nat) : Int)), az_r 1, az_i (zG S t 3)]) (s2 := s) rfl ?_
  refine az_clv (v := some (az_i (zG S u 3))) (t := s) (m2 := am_m_X8_ofGoat) (as := [az_r 1, az_i (((u : Nat) : Int)), az_i (3)]) (rest := [az_i (zG S t 3)]) 12 rfl rfl ⟨rfl, rfl⟩ (by omega) (zs_X8_ofGoat (s := s) (g := u) (k := 3) (by omega) hR (by omega) (by omega)) ?_
  refine az_to 0 (pc2 := 12) (lv2 := [some (az_r 1), some (az_i (((t : Nat) : Int))), some (az_i (((u : Nat) : Int))), none, none]) (st2 := [az_i (zG S u 3), az_i (zG S t 3)]) (s2 := s) rfl ?_
  refine az_to 5 (pc2 := 17) (lv2 := [some (az_r 1), some (az_i (((t : Nat) : Int))), some (az_i (((u : Nat) : Int))), some (az_i ((zG S t 3 - zG S u 3))), none]) (st2 := [az_i (1), az_i (((t : Nat) : Int)), az_r 1]) (s2 := s) rfl ?_
  refine az_clv (v := some (az_i (zG S t 1))) (t := s) (m2 := am_m_X8_ofGoat) (as := [az_r 1, az_i (((t : Nat) : Int)), az_i (1)]) (rest := []) 20 rfl rfl ⟨rfl, rfl⟩ (by omega) (zs_X8_ofGoat (s := s) (g := t) (k := 1) (by omega) hR (by omega) (by omega)) ?_
  refine az_to 0 (pc2 := 20) (lv2 := [some (az_r 1), some (az_i (((t : Nat) : Int))), some (az_i (((u : Nat) : Int))), some (az_i ((zG S t 3 - zG S u 3))), none]) (st2 := [az_i (zG S t 1)]) (s2 := s) rfl ?_
  refine az_to 3 (pc2 := 23) (lv2 := [some (az_r 1), some (az_i (((t : Nat) : Int))), some (az_i (((u : Nat) : Int))), some (az_i ((zG S t 3 - zG S u 3))), none]) (st2 := [az_i (1), az_i (((u : Nat) : Int)), az_r 1, az_i (zG S t 1)]) (s2 := s) rfl ?_
  refine az_clv (v := some (az_i (zG S u 1))) (t := s) (m2 := am_m_X8_ofGoat) (as := [az_r 1, az_i (((u : Nat) : Int)), az_i (1)]) (rest := [az_i (zG S t 1)]) 26 rfl rfl ⟨rfl, rfl⟩ (by omega) (zs_X8_ofGoat (s := s) (g := u) (k := 1) (by omega) hR (by omega) (by omega)) ?_
  refine az_to 0 (pc2 := 26) (lv2 := [some (az_r 1), some (az_i (((t : Nat) : Int))), some (az_i (((u : Nat) : Int))), some (az_i ((zG S t 3 - zG S u 3))), none]) (st2 := [az_i (zG S u 1), az_i (zG S t 1)]) (s2 := s) rfl ?_
  refine az_to 3 (pc2 := 30) (lv2 := [some (az_r 1), some (az_i (((t : Nat) : Int))), some (az_i (((u : Nat) : Int))), some (az_i ((zG S t 3 - zG S u 3))), some (az_i ((zG S t 1 - zG S u 1)))]) (st2 := [az_i ((zG S t 3 - zG S u 3))]) (s2 := s) rfl ?_
  refine az_ifc 43 33 rfl (by decide) (by first | assumption | exact ⟨by omega, by omega⟩) (fun h1 => ?_) (fun h1 => ?_)
  · have h1 : (zG S t 3 - zG S u 3) = 0 := h1
    refine az_to 1 (pc2 := 45) (lv2 := [some (az_r 1), some (az_i (((t : Nat) : Int))), some (az_i (((u : Nat) : Int))), some (az_i ((zG S t 3 - zG S u 3))), some (az_i ((zG S t 1 - zG S u 1)))]) (st2 := [az_i ((zG S t 1 - zG S u 1))]) (s2 := s) rfl ?_
    refine az_ifc 61 48 rfl (by decide) (by first | assumption | exact ⟨by omega, by omega⟩) (fun h2 => ?_) (fun h2 => ?_)
    · have h2 : (zG S t 1 - zG S u 1) = 0 := h2
      refine az_to 2 (pc2 := 63) (lv2 := [some (az_r 1), some (az_i (((t : Nat) : Int))), some (az_i (((u : Nat) : Int))), some (az_i ((zG S t 3 - zG S u 3))), some (az_i ((zG S t 1 - zG S u 1)))]) (st2 := [az_i (((u : Nat) : Int)), az_i (((t : Nat) : Int))]) (s2 := s) rfl ?_
      refine az_if2 70 66 rfl (by decide) (by first | assumption | exact ⟨by omega, by omega⟩) (by first | assumption | exact ⟨by omega, by omega⟩) (fun h3 => ?_) (fun h3 => ?_)
      · have h3 : ((u : Nat) : Int) ≤ ((t : Nat) : Int) := h3
        refine az_to 1 (pc2 := 71) (lv2 := [some (az_r 1), some (az_i (((t : Nat) : Int))), some (az_i (((u : Nat) : Int))), some (az_i ((zG S t 3 - zG S u 3))), some (az_i ((zG S t 1 - zG S u 1)))]) (st2 := [az_i (0)]) (s2 := s) rfl ?_
        refine az_retB rfl rfl (by first | decide | omega | exact Or.inl rfl | exact Or.inr rfl) ?_
        exact ⟨by rw [az_b0 (by unfold ztir; first | (rw [if_pos (by omega)]; omega) | (rw [if_neg (by omega), if_pos (by omega)]; omega) | (rw [if_neg (by omega), if_neg (by omega)]; omega))], rfl⟩
      · have h3 : ¬ (((u : Nat) : Int) ≤ ((t : Nat) : Int)) := h3
        refine az_to 2 (pc2 := 71) (lv2 := [some (az_r 1), some (az_i (((t : Nat) : Int))), some (az_i (((u : Nat) : Int))), some (az_i ((zG S t 3 - zG S u 3))), some (az_i ((zG S t 1 - zG S u 1)))]) (st2 := [az_i (1)]) (s2 := s) rfl ?_
        refine az_retB rfl rfl (by first | decide | omega | exact Or.inl rfl | exact Or.inr rfl) ?_
        exact ⟨by rw [az_b1 (by unfold ztir; first | (rw [if_pos (by omega)]; omega) | (rw [if_neg (by omega), if_pos (by omega)]; omega) | (rw [if_neg (by omega), if_neg (by omega)]; omega))], rfl⟩
    · have h2 : ¬ ((zG S t 1 - zG S u 1) = 0) := h2
      refine az_to 1 (pc2 := 50) (lv2 := [some (az_r 1), some (az_i (((t : Nat) : Int))), some (az_i (((u : Nat) : Int))), some (az_i ((zG S t 3 - zG S u 3))), some (az_i ((zG S t 1 - zG S u 1)))]) (st2 := [az_i ((zG S t 1 - zG S u 1))]) (s2 := s) rfl ?_
      refine az_ifc 57 53 rfl (by decide) (by first | assumption | exact ⟨by omega, by omega⟩) (fun h4 => ?_) (fun h4 => ?_)
      · have h4 : (zG S t 1 - zG S u 1) ≤ 0 := h4
        refine az_to 2 (pc2 := 71) (lv2 := [some (az_r 1), some (az_i (((t : Nat) : Int))), some (az_i (((u : Nat) : Int))), some (az_i ((zG S t 3 - zG S u 3))), some (az_i ((zG S t 1 - zG S u 1)))]) (st2 := [az_i (0)]) (s2 := s) rfl ?_
        refine az_retB rfl rfl (by first | decide | omega | exact Or.inl rfl | exact Or.inr rfl) ?_
        exact ⟨by rw [az_b0 (by unfold ztir; first | (rw [if_pos (by omega)]; omega) | (rw [if_neg (by omega), if_pos (by omega)]; omega) | (rw [if_neg (by omega), if_neg (by omega)]; omega))], rfl⟩
      · have h4 : ¬ ((zG S t 1 - zG S u 1) ≤ 0) := h4
        refine az_to 2 (pc2 := 71) (lv2 := [some (az_r 1), some (az_i (((t : Nat) : Int))), some (az_i (((u : Nat) : Int))), some (az_i ((zG S t 3 - zG S u 3))), some (az_i ((zG S t 1 - zG S u 1)))]) (st2 := [az_i (1)]) (s2 := s) rfl ?_
        refine az_retB rfl rfl (by first | decide | omega | exact Or.inl rfl | exact Or.inr rfl) ?_
        exact ⟨by rw [az_b1 (by unfold ztir; first | (rw [if_pos (by omega)]; omega) | (rw [if_neg (by omega), if_pos (by omega)]; omega) | (rw [if_neg (by omega), if_neg (by omega)]; omega))], rfl⟩
  · have h1 : ¬ ((zG S t 3 - zG S u 3) = 0) := h1
    refine az_to 1 (pc2 := 34) (lv2 := [some (az_r 1), some (az_i (((t : Nat) : Int))), some (az_i (((u : Nat) : Int))), some (az_i ((zG S t 3 - zG S u 3))), some (az_i ((zG S t 1 - zG S u 1)))]) (st2 := [az_i ((zG S t 3 - zG S u 3))]) (s2 := s) rfl ?_
    refine az_ifc 41 37 rfl (by decide) (by first | assumption | exact ⟨by omega, by omega⟩) (fun h5 => ?_) (fun h5 => ?_)
    · have h5 : (zG S t 3 - zG S u 3) ≤ 0 := h5
      refine az_to 1 (pc2 := 42) (lv2 := [some (az_r 1), some (az_i (((t : Nat) : Int))), some (az_i (((u : Nat) : Int))), some (az_i ((zG S t 3 - zG S u 3))), some (az_i ((zG S t 1 - zG S u 1)))]) (st2 := [az_i (0)]) (s2 := s) rfl ?_
      refine az_retB rfl rfl (by first | decide | omega | exact Or.inl rfl | exact Or.inr rfl) ?_
      exact ⟨by rw [az_b0 (by unfold ztir; first | (rw [if_pos (by omega)]; omega) | (rw [if_neg (by omega), if_pos (by omega)]; omega) | (rw [if_neg (by omega), if_neg (by omega)]; omega))], rfl⟩
    · have h5 : ¬ ((zG S t 3 - zG S u 3) ≤ 0) := h5
      refine az_to 2 (pc2 := 42) (lv2 := [some (az_r 1), some (az_i (((t : Nat) : Int))), some (az_i (((u : Nat) : Int))), some (az_i ((zG S t 3 - zG S u 3))), some (az_i ((zG S t 1 - zG S u 1)))]) (st2 := [az_i (1)]) (s2 := s) rfl ?_
      refine az_retB rfl rfl (by first | decide | omega | exact Or.inl rfl | exact Or.inr rfl) ?_
      exact ⟨by rw [az_b1 (by unfold ztir; first | (rw [if_pos (by omega)]; omega) | (rw [if_neg (by omega), if_pos (by omega)]; omega) | (rw [if_neg (by omega), if_neg (by omega)]; omega))], rfl⟩
set_option maxRecDepth 100000 in
set_option maxHeartbeats 800000 in
theorem zs_X8_placeOfTroll_L4 {d : Nat} {s : az_S} (hd : 4 ≤ d) {S : zR} {h : Nat} (hR : zRel (s 3) S) (hI : zInv S h) (hh : h ≤ 10000) {t : Nat} (ht : t < zn S 1) : ∀ (m : Nat) (k : Nat), m = zn S 1 - k → (k ≤ zn S 1) → az_R d am_m_X8_placeOfTroll 4 [some (az_r 1), some (az_i (((t : Nat) : Int))), some (az_i (zs k (fun u => az_b (zric S u t)))), some (az_i (((k : Nat) : Int)))] [] (s) (az_ret (some (az_i (zpt S t))) (s)) := by
  intro m
  induction m using Nat.strongRecOn with
  | _ m ih =>
    intro k hm g0
    have hz := zI_h hI hh
    refine az_to 3 (pc2 := 7) (lv2 := [some (az_r 1), some (az_i (((t : Nat) : Int))), some (az_i (zs k (fun u => az_b (zric S u t)))), some (az_i (((k : Nat) : Int)))]) (st2 := [az_i (3), az_r 1, az_i (((k : Nat) : Int))]) (s2 := s) rfl ?_
    refine az_clv (v := some (az_i (((zn S 1 : Nat) : Int)))) (t := s) (m2 := am_m_X8_of) (as := [az_r 1, az_i (3)]) (rest := [az_i (((k : Nat) : Int))]) 10 rfl rfl ⟨rfl, rfl⟩ (by omega) (zs_X8_of_3 (s := s)  (by omega) hR hI hh) ?_
    refine az_to 0 (pc2 := 10) (lv2 := [some (az_r 1), some (az_i (((t : Nat) : Int))), some (az_i (zs k (fun u => az_b (zric S u t)))), some (az_i (((k : Nat) : Int)))]) (st2 := [az_i (((zn S 1 : Nat) : Int)), az_i (((k : Nat) : Int))]) (s2 := s) rfl ?_
    refine az_if2 31 13 rfl (by decide) (by first | assumption | exact ⟨by omega, by omega⟩) (by first | assumption | exact ⟨by omega, by omega⟩) (fun h1 => ?_) (fun h1 => ?_)
    · have h1 : ((zn S 1 : Nat) : Int) ≤ ((k : Nat) : Int) := h1
      refine az_to 1 (pc2 := 32) (lv2 := [some (az_r 1), some (az_i (((t : Nat) : Int))), some (az_i (zs k (fun u => az_b (zric S u t)))), some (az_i (((k : Nat) : Int)))]) (st2 := [az_i (zs k (fun u => az_b (zric S u t)))]) (s2 := s) rfl ?_
      refine az_retI rfl rfl ?_
      obtain rfl : k = zn S 1 := by omega
      exact ⟨rfl, rfl⟩
    · have h1 : ¬ (((zn S 1 : Nat) : Int) ≤ ((k : Nat) : Int)) := h1
      refine az_to 3 (pc2 := 16) (lv2 := [some (az_r 1), some (az_i (((t : Nat) : Int))), some (az_i (zs k (fun u => az_b (zric S u t)))), some (az_i (((k : Nat) : Int)))]) (st2 := [az_i (((t : Nat) : Int)), az_i (((k : Nat) : Int)), az_r 1]) (s2 := s) rfl ?_
      refine az_clv (v := some (az_i (az_b (zric S k t)))) (t := s) (m2 := am_m_X8_isRicher) (as := [az_r 1, az_i (((k : Nat) : Int)), az_i (((t : Nat) : Int))]) (rest := []) 19 rfl rfl ⟨rfl, rfl⟩ (by omega) (zs_X8_isRicher (s := s) (t := k) (u := t) (by omega) hR hI hh (by omega) (by omega)) ?_
      refine az_to 0 (pc2 := 19) (lv2 := [some (az_r 1), some (az_i (((t : Nat) : Int))), some (az_i (zs k (fun u => az_b (zric S u t)))), some (az_i (((k : Nat) : Int)))]) (st2 := [az_i (az_b (zric S k t))]) (s2 := s) rfl ?_
      refine az_ifbe 25 22 rfl (by decide) (fun h2 => ?_) (fun h2 => ?_)
      · have h2 : ¬ (zric S k t) := h2
        refine az_to 2 (pc2 := 4) (lv2 := [some (az_r 1), some (az_i (((t : Nat) : Int))), some (az_i (zs k (fun u => az_b (zric S u t)))), some (az_i ((((k : Nat) : Int) + 1)))]) (st2 := []) (s2 := s) rfl ?_
        have e9 : zs k (fun u => az_b (zric S u t)) = zs (k + 1) (fun u => az_b (zric S u t)) := by
          show _ = zs k _ + _
          dsimp only; rw [az_b0 (by assumption), Int.add_zero]
        rw [e9]
        exact ih _ (by omega) (k + 1) rfl (by omega)
      · have h2 : zric S k t := h2
        refine az_to 3 (pc2 := 4) (lv2 := [some (az_r 1), some (az_i (((t : Nat) : Int))), some (az_i ((zs k (fun u => az_b (zric S u t)) + 1))), some (az_i ((((k : Nat) : Int) + 1)))]) (st2 := []) (s2 := s) rfl ?_
        have e9 : (zs k (fun u => az_b (zric S u t)) + 1) = zs (k + 1) (fun u => az_b (zric S u t)) := by
          show _ = zs k _ + _
          dsimp only; rw [az_b1 (by assumption)]
        rw [e9]
        exact ih _ (by omega) (k + 1) rfl (by omega)
set_option maxRecDepth 100000 in
set_option maxHeartbeats 800000 in
theorem zs_X8_placeOfTroll {d : Nat} {s : az_S} (hd : 4 ≤ d) {S : zR} {h : Nat} (hR : zRel (s 3) S) (hI : zInv S h) (hh : h ≤ 10000) {t : Nat} (ht : t < zn S 1) : az_R d am_m_X8_placeOfTroll 0 (az_ini (am_mL am_m_X8_placeOfTroll) [az_r 1, az_i (((t : Nat) : Int))]) [] (s) (az_ret (some (az_i (zpt S t))) (s)) := by
  have hz := zI_h hI hh
  refine az_to 0 (pc2 := 0) (lv2 := [some (az_r 1), some (az_i (((t : Nat) : Int))), none, none]) (st2 := []) (s2 := s) rfl ?_
  refine az_to 4 (pc2 := 4) (lv2 := [some (az_r 1), some (az_i (((t : Nat) : Int))), some (az_i (0)), some (az_i (0))]) (st2 := []) (s2 := s) rfl ?_
  exact zs_X8_placeOfTroll_L4 (by omega) hR hI hh ht _ 0 rfl (by omega)
set_option maxRecDepth 100000 in
set_option maxHeartbeats 800000 in
theorem zs_X8_placeOfGoat_L4 {d : Nat} {s : az_S} (hd : 3 ≤ d) {S : zR} {h : Nat} (hR : zRel (s 3) S) (hI : zInv S h) (hh : h ≤ 10000) {t : Nat} (ht : t < zn S 2) : ∀ (m : Nat) (k : Nat), m = zn S 2 - k → (k ≤ zn S 2) → az_R d am_m_X8_placeOfGoat 4 [some (az_r 1), some (az_i (((t : Nat) : Int))), some (az_i (zs k (fun u => az_b (ztir S u t)))), some (az_i (((k : Nat) : Int)))] [] (s) (az_ret (some (az_i (zpg S t))) (s)) := by
  intro m
  induction m using Nat.strongRecOn with
  | _ m ih =>
    intro k hm g0
    have hz := zI_h hI hh
    refine az_to 3 (pc2 := 7) (lv2 := [some (az_r 1), some (az_i (((t : Nat) : Int))), some (az_i (zs k (fun u => az_b (ztir S u t)))), some (az_i (((k : Nat) : Int)))]) (st2 := [az_i (4), az_r 1, az_i (((k : Nat) : Int))]) (s2 := s) rfl ?_
    refine az_clv (v := some (az_i (((zn S 2 : Nat) : Int)))) (t := s) (m2 := am_m_X8_of) (as := [az_r 1, az_i (4)]) (rest := [az_i (((k : Nat) : Int))]) 10 rfl rfl ⟨rfl, rfl⟩ (by omega) (zs_X8_of_4 (s := s)  (by omega) hR hI hh) ?_
    refine az_to 0 (pc2 := 10) (lv2 := [some (az_r 1), some (az_i (((t : Nat) : Int))), some (az_i (zs k (fun u => az_b (ztir S u t)))), some (az_i (((k : Nat) : Int)))]) (st2 := [az_i (((zn S 2 : Nat) : Int)), az_i (((k : Nat) : Int))]) (s2 := s) rfl ?_
    refine az_if2 31 13 rfl (by decide) (by first | assumption | exact ⟨by omega, by omega⟩) (by first | assumption | exact ⟨by omega, by omega⟩) (fun h1 => ?_) (fun h1 => ?_)
    · have h1 : ((zn S 2 : Nat) : Int) ≤ ((k : Nat) : Int) := h1
      refine az_to 1 (pc2 := 32) (lv2 := [some (az_r 1), some (az_i (((t : Nat) : Int))), some (az_i (zs k (fun u => az_b (ztir S u t)))), some (az_i (((k : Nat) : Int)))]) (st2 := [az_i (zs k (fun u => az_b (ztir S u t)))]) (s2 := s) rfl ?_
      refine az_retI rfl rfl ?_
      obtain rfl : k = zn S 2 := by omega
      exact ⟨rfl, rfl⟩
    · have h1 : ¬ (((zn S 2 : Nat) : Int) ≤ ((k : Nat) : Int)) := h1
      refine az_to 3 (pc2 := 16) (lv2 := [some (az_r 1), some (az_i (((t : Nat) : Int))), some (az_i (zs k (fun u => az_b (ztir S u t)))), some (az_i (((k : Nat) : Int)))]) (st2 := [az_i (((t : Nat) : Int)), az_i (((k : Nat) : Int)), az_r 1]) (s2 := s) rfl ?_
      refine az_clv (v := some (az_i (az_b (ztir S k t)))) (t := s) (m2 := am_m_X8_isMoreTired) (as := [az_r 1, az_i (((k : Nat) : Int)), az_i (((t : Nat) : Int))]) (rest := []) 19 rfl rfl ⟨rfl, rfl⟩ (by omega) (zs_X8_isMoreTired (s := s) (t := k) (u := t) (by omega) hR hI hh (by omega) (by omega)) ?_
      refine az_to 0 (pc2 := 19) (lv2 := [some (az_r 1), some (az_i (((t : Nat) : Int))), some (az_i (zs k (fun u => az_b (ztir S u t)))), some (az_i (((k : Nat) : Int)))]) (st2 := [az_i (az_b (ztir S k t))]) (s2 := s) rfl ?_
      refine az_ifbe 25 22 rfl (by decide) (fun h2 => ?_) (fun h2 => ?_)
      · have h2 : ¬ (ztir S k t) := h2
        refine az_to 2 (pc2 := 4) (lv2 := [some (az_r 1), some (az_i (((t : Nat) : Int))), some (az_i (zs k (fun u => az_b (ztir S u t)))), some (az_i ((((k : Nat) : Int) + 1)))]) (st2 := []) (s2 := s) rfl ?_
        have e9 : zs k (fun u => az_b (ztir S u t)) = zs (k + 1) (fun u => az_b (ztir S u t)) := by
          show _ = zs k _ + _
          dsimp only; rw [az_b0 (by assumption), Int.add_zero]
        rw [e9]
        exact ih _ (by omega) (k + 1) rfl (by omega)
      · have h2 : ztir S k t := h2
        refine az_to 3 (pc2 := 4) (lv2 := [some (az_r 1), some (az_i (((t : Nat) : Int))), some (az_i ((zs k (fun u => az_b (ztir S u t)) + 1))), some (az_i ((((k : Nat) : Int) + 1)))]) (st2 := []) (s2 := s) rfl ?_
        have e9 : (zs k (fun u => az_b (ztir S u t)) + 1) = zs (k + 1) (fun u => az_b (ztir S u t)) := by
          show _ = zs k _ + _
          dsimp only; rw [az_b1 (by assumption)]
        rw [e9]
        exact ih _ (by omega) (k + 1) rfl (by omega)
set_option maxRecDepth 100000 in
set_option maxHeartbeats 800000 in
theorem zs_X8_placeOfGoat {d : Nat} {s : az_S} (hd : 3 ≤ d) {S : zR} {h : Nat} (hR : zRel (s 3) S) (hI : zInv S h) (hh : h ≤ 10000) {t : Nat} (ht : t < zn S 2) : az_R d am_m_X8_placeOfGoat 0 (az_ini (am_mL am_m_X8_placeOfGoat) [az_r 1, az_i (((t : Nat) : Int))]) [] (s) (az_ret (some (az_i (zpg S t))) (s)) := by
  have hz := zI_h hI hh
  refine az_to 0 (pc2 := 0) (lv2 := [some (az_r 1), some (az_i (((t : Nat) : Int))), none, none]) (st2 := []) (s2 := s) rfl ?_
  refine az_to 4 (pc2 := 4) (lv2 := [some (az_r 1), some (az_i (((t : Nat) : Int))), some (az_i (0)), some (az_i (0))]) (st2 := []) (s2 := s) rfl ?_
  exact zs_X8_placeOfGoat_L4 (by omega) hR hI hh ht _ 0 rfl (by omega)
set_option maxRecDepth 100000 in
set_option maxHeartbeats 800000 in
theorem zs_X8_earlierEnd {d : Nat} {s : az_S} (hd : 2 ≤ d) {S : zR} {h : Nat} (hR : zRel (s 3) S) (hI : zInv S h) (hh : h ≤ 10000) {e z : Int} (he : az_in e) (hz0 : az_in z) : az_R d am_m_X8_earlierEnd 0 (az_ini (am_mL am_m_X8_earlierEnd) [az_r 1, az_i (e), az_i (z)]) [] (s) (az_ret (some (az_i (zee (S 3) e z))) (s)) := by
  have hz := zI_h hI hh
  refine az_to 0 (pc2 := 0) (lv2 := [some (az_r 1), some (az_i (e)), some (az_i (z)), none]) (st2 := []) (s2 := s) rfl ?_
  refine az_to 3 (pc2 := 3) (lv2 := [some (az_r 1), some (az_i (e)), some (az_i (z)), none]) (st2 := [az_i (0), az_r 1, az_i (z)]) (s2 := s) rfl ?_
  refine az_clv (v := some (az_i (S 3))) (t := s) (m2 := am_m_X8_of) (as := [az_r 1, az_i (0)]) (rest := [az_i (z)]) 6 rfl rfl ⟨rfl, rfl⟩ (by omega) (zs_X8_of_0 (s := s)  (by omega) hR hI hh) ?_
  refine az_to 0 (pc2 := 6) (lv2 := [some (az_r 1), some (az_i (e)), some (az_i (z)), none]) (st2 := [az_i (S 3), az_i (z)]) (s2 := s) rfl ?_
  refine az_if2 13 9 rfl (by decide) (by first | assumption | exact ⟨by omega, by omega⟩) (by first | assumption | exact ⟨by omega, by omega⟩) (fun h1 => ?_) (fun h1 => ?_)
  · have h1 : z ≤ S 3 := h1
    refine az_to 3 (pc2 := 16) (lv2 := [some (az_r 1), some (az_i (e)), some (az_i (z)), some (az_i (0))]) (st2 := [az_i (0)]) (s2 := s) rfl ?_
    refine az_ifc 33 19 rfl (by decide) ⟨by decide, by decide⟩ (fun _ => ?_) (fun h => absurd (show az_cnd _ _ _ by unfold az_cnd; decide) h)
    refine az_to 1 (pc2 := 34) (lv2 := [some (az_r 1), some (az_i (e)), some (az_i (z)), some (az_i (0))]) (st2 := [az_i (e)]) (s2 := s) rfl ?_
    refine az_retI rfl rfl ?_
    exact ⟨by unfold zee; first | rw [if_pos (by omega)] | rw [if_neg (by omega)], rfl⟩
  · have h1 : ¬ (z ≤ S 3) := h1
    refine az_to 4 (pc2 := 16) (lv2 := [some (az_r 1), some (az_i (e)), some (az_i (z)), some (az_i (1))]) (st2 := [az_i (1)]) (s2 := s) rfl ?_
    refine az_ifc 33 19 rfl (by decide) ⟨by decide, by decide⟩ (fun h => absurd h (by unfold az_cnd; decide)) (fun _ => ?_)
    refine az_to 2 (pc2 := 21) (lv2 := [some (az_r 1), some (az_i (e)), some (az_i (z)), some (az_i (1))]) (st2 := [az_i (-1), az_i (e)]) (s2 := s) rfl ?_
    refine az_if2 29 24 rfl (by decide) (by first | assumption | exact ⟨by omega, by omega⟩) ⟨by decide, by decide⟩ (fun h2 => ?_) (fun h2 => ?_)
    · have h2 : e = -1 := h2
      refine az_to 2 (pc2 := 34) (lv2 := [some (az_r 1), some (az_i (e)), some (az_i (z)), some (az_i (1))]) (st2 := [az_i (z)]) (s2 := s) rfl ?_
      refine az_retI rfl rfl ?_
      exact ⟨by unfold zee; first | rw [if_pos (by omega)] | rw [if_neg (by omega)], rfl⟩
    · have h2 : ¬ (e = -1) := h2
      refine az_to 2 (pc2 := 26) (lv2 := [some (az_r 1), some (az_i (e)), some (az_i (z)), some (az_i (1))]) (st2 := [az_i (e), az_i (z)]) (s2 := s) rfl ?_
      refine az_if2 33 29 rfl (by decide) (by first | assumption | exact ⟨by omega, by omega⟩) (by first | assumption | exact ⟨by omega, by omega⟩) (fun h3 => ?_) (fun h3 => ?_)
      · have h3 : e ≤ z := h3
        refine az_to 1 (pc2 := 34) (lv2 := [some (az_r 1), some (az_i (e)), some (az_i (z)), some (az_i (1))]) (st2 := [az_i (e)]) (s2 := s) rfl ?_
        refine az_retI rfl rfl ?_
        exact ⟨by unfold zee; first | rw [if_pos (by omega)] | rw [if_neg (by omega)], rfl⟩
      · have h3 : ¬ (e ≤ z) := h3
        refine az_to 2 (pc2 := 34) (lv2 := [some (az_r 1), some (az_i (e)), some (az_i (z)), some (az_i (1))]) (st2 := [az_i (z)]) (s2 := s) rfl ?_
        refine az_retI rfl rfl ?_
        exact ⟨by unfold zee; first | rw [if_pos (by omega)] | rw [if_neg (by omega)], rfl⟩
set_option maxRecDepth 100000 in
set_option maxHeartbeats 800000 in
theorem zs_X8_nextEnd_L33 {d : Nat} {s : az_S} (hd : 3 ≤ d) {S : zR} {h : Nat} (hR : zRel (s 3) S) (hI : zInv S h) (hh : h ≤ 10000) : ∀ (m : Nat) (k : Nat), m = zn S 0 - k → (k ≤ zn S 0) → az_R d am_m_X8_nextEnd 33 [some (az_r 1), some (az_i (zne2 S k)), some (az_i (((k : Nat) : Int)))] [] (s) (az_ret (some (az_i (zne S))) (s)) := by
  intro m
  induction m using Nat.strongRecOn with
  | _ m ih =>
    intro k hm g0
    have hz := zI_h hI hh
    have hzr := zne2_r hI hh g0
    refine az_to 3 (pc2 := 36) (lv2 := [some (az_r 1), some (az_i (zne2 S k)), some (az_i (((k : Nat) : Int)))]) (st2 := [az_i (2), az_r 1, az_i (((k : Nat) : Int))]) (s2 := s) rfl ?_
    refine az_clv (v := some (az_i (((zn S 0 : Nat) : Int)))) (t := s) (m2 := am_m_X8_of) (as := [az_r 1, az_i (2)]) (rest := [az_i (((k : Nat) : Int))]) 39 rfl rfl ⟨rfl, rfl⟩ (by omega) (zs_X8_of_2 (s := s)  (by omega) hR hI hh) ?_
    refine az_to 0 (pc2 := 39) (lv2 := [some (az_r 1), some (az_i (zne2 S k)), some (az_i (((k : Nat) : Int)))]) (st2 := [az_i (((zn S 0 : Nat) : Int)), az_i (((k : Nat) : Int))]) (s2 := s) rfl ?_
    refine az_if2 60 42 rfl (by decide) (by first | assumption | exact ⟨by omega, by omega⟩) (by first | assumption | exact ⟨by omega, by omega⟩) (fun h1 => ?_) (fun h1 => ?_)
    · have h1 : ((zn S 0 : Nat) : Int) ≤ ((k : Nat) : Int) := h1
      refine az_to 1 (pc2 := 61) (lv2 := [some (az_r 1), some (az_i (zne2 S k)), some (az_i (((k : Nat) : Int)))]) (st2 := [az_i (zne2 S k)]) (s2 := s) rfl ?_
      refine az_retI rfl rfl ?_
      obtain rfl : k = zn S 0 := by omega
      exact ⟨rfl, rfl⟩
    · have h1 : ¬ (((zn S 0 : Nat) : Int) ≤ ((k : Nat) : Int)) := h1
      have hzt := zI_b hI hh (b := k) (by omega)
      refine az_to 5 (pc2 := 47) (lv2 := [some (az_r 1), some (az_i (zne2 S k)), some (az_i (((k : Nat) : Int)))]) (st2 := [az_i (5), az_i (((k : Nat) : Int)), az_r 1, az_i (zne2 S k), az_r 1]) (s2 := s) rfl ?_
      refine az_clv (v := some (az_i (zB S k 4))) (t := s) (m2 := am_m_X8_ofBridge) (as := [az_r 1, az_i (((k : Nat) : Int)), az_i (5)]) (rest := [az_i (zne2 S k), az_r 1]) 50 rfl rfl ⟨rfl, rfl⟩ (by omega) (zs_X8_ofBridge (s := s) (b := k) (k := 5) (by omega) hR (by omega) (by omega) (by omega)) ?_
      refine az_to 0 (pc2 := 50) (lv2 := [some (az_r 1), some (az_i (zne2 S k)), some (az_i (((k : Nat) : Int)))]) (st2 := [az_i (zB S k 4), az_i (zne2 S k), az_r 1]) (s2 := s) rfl ?_
      refine az_clv (v := some (az_i (zee (S 3) (zne2 S k) (zB S k 4)))) (t := s) (m2 := am_m_X8_earlierEnd) (as := [az_r 1, az_i (zne2 S k), az_i (zB S k 4)]) (rest := []) 53 rfl rfl ⟨rfl, rfl⟩ (by omega) (zs_X8_earlierEnd (s := s) (e := (zne2 S k)) (z := (zB S k 4)) (by omega) hR hI hh (by first | assumption | exact ⟨by omega, by omega⟩) (by first | assumption | exact ⟨by omega, by omega⟩)) ?_
      refine az_to 0 (pc2 := 53) (lv2 := [some (az_r 1), some (az_i (zne2 S k)), some (az_i (((k : Nat) : Int)))]) (st2 := [az_i (zee (S 3) (zne2 S k) (zB S k 4))]) (s2 := s) rfl ?_
      refine az_to 3 (pc2 := 33) (lv2 := [some (az_r 1), some (az_i (zee (S 3) (zne2 S k) (zB S k 4))), some (az_i ((((k : Nat) : Int) + 1)))]) (st2 := []) (s2 := s) rfl ?_
      exact ih _ (by omega) (k + 1) rfl (by omega)
set_option maxRecDepth 100000 in
set_option maxHeartbeats 800000 in
theorem zs_X8_nextEnd_L4 {d : Nat} {s : az_S} (hd : 3 ≤ d) {S : zR} {h : Nat} (hR : zRel (s 3) S) (hI : zInv S h) (hh : h ≤ 10000) : ∀ (m : Nat) (k : Nat), m = zn S 1 - k → (k ≤ zn S 1) → az_R d am_m_X8_nextEnd 4 [some (az_r 1), some (az_i (zne1 S k)), some (az_i (((k : Nat) : Int)))] [] (s) (az_ret (some (az_i (zne S))) (s)) := by
  intro m
  induction m using Nat.strongRecOn with
  | _ m ih =>
    intro k hm g0
    have hz := zI_h hI hh
    have hzr := zne1_r hI hh g0
    refine az_to 3 (pc2 := 7) (lv2 := [some (az_r 1), some (az_i (zne1 S k)), some (az_i (((k : Nat) : Int)))]) (st2 := [az_i (3), az_r 1, az_i (((k : Nat) : Int))]) (s2 := s) rfl ?_
    refine az_clv (v := some (az_i (((zn S 1 : Nat) : Int)))) (t := s) (m2 := am_m_X8_of) (as := [az_r 1, az_i (3)]) (rest := [az_i (((k : Nat) : Int))]) 10 rfl rfl ⟨rfl, rfl⟩ (by omega) (zs_X8_of_3 (s := s)  (by omega) hR hI hh) ?_
    refine az_to 0 (pc2 := 10) (lv2 := [some (az_r 1), some (az_i (zne1 S k)), some (az_i (((k : Nat) : Int)))]) (st2 := [az_i (((zn S 1 : Nat) : Int)), az_i (((k : Nat) : Int))]) (s2 := s) rfl ?_
    refine az_if2 31 13 rfl (by decide) (by first | assumption | exact ⟨by omega, by omega⟩) (by first | assumption | exact ⟨by omega, by omega⟩) (fun h2 => ?_) (fun h2 => ?_)
    · have h2 : ((zn S 1 : Nat) : Int) ≤ ((k : Nat) : Int) := h2
      refine az_to 2 (pc2 := 33) (lv2 := [some (az_r 1), some (az_i (zne1 S k)), some (az_i (0))]) (st2 := []) (s2 := s) rfl ?_
      obtain rfl : k = zn S 1 := by omega
      exact zs_X8_nextEnd_L33 (by omega) hR hI hh _ 0 rfl (by omega)
    · have h2 : ¬ (((zn S 1 : Nat) : Int) ≤ ((k : Nat) : Int)) := h2
      have hzt := zI_t hI hh (t := k) (by omega)
      refine az_to 5 (pc2 := 18) (lv2 := [some (az_r 1), some (az_i (zne1 S k)), some (az_i (((k : Nat) : Int)))]) (st2 := [az_i (3), az_i (((k : Nat) : Int)), az_r 1, az_i (zne1 S k), az_r 1]) (s2 := s) rfl ?_
      refine az_clv (v := some (az_i (zT S k 3))) (t := s) (m2 := am_m_X8_ofTroll) (as := [az_r 1, az_i (((k : Nat) : Int)), az_i (3)]) (rest := [az_i (zne1 S k), az_r 1]) 21 rfl rfl ⟨rfl, rfl⟩ (by omega) (zs_X8_ofTroll (s := s) (t := k) (k := 3) (by omega) hR (by omega) (by omega)) ?_
      refine az_to 0 (pc2 := 21) (lv2 := [some (az_r 1), some (az_i (zne1 S k)), some (az_i (((k : Nat) : Int)))]) (st2 := [az_i (zT S k 3), az_i (zne1 S k), az_r 1]) (s2 := s) rfl ?_
      refine az_clv (v := some (az_i (zee (S 3) (zne1 S k) (zT S k 3)))) (t := s) (m2 := am_m_X8_earlierEnd) (as := [az_r 1, az_i (zne1 S k), az_i (zT S k 3)]) (rest := []) 24 rfl rfl ⟨rfl, rfl⟩ (by omega) (zs_X8_earlierEnd (s := s) (e := (zne1 S k)) (z := (zT S k 3)) (by omega) hR hI hh (by first | assumption | exact ⟨by omega, by omega⟩) (by first | assumption | exact ⟨by omega, by omega⟩)) ?_
      refine az_to 0 (pc2 := 24) (lv2 := [some (az_r 1), some (az_i (zne1 S k)), some (az_i (((k : Nat) : Int)))]) (st2 := [az_i (zee (S 3) (zne1 S k) (zT S k 3))]) (s2 := s) rfl ?_
      refine az_to 3 (pc2 := 4) (lv2 := [some (az_r 1), some (az_i (zee (S 3) (zne1 S k) (zT S k 3))), some (az_i ((((k : Nat) : Int) + 1)))]) (st2 := []) (s2 := s) rfl ?_
      exact ih _ (by omega) (k + 1) rfl (by omega)
set_option maxRecDepth 100000 in
set_option maxHeartbeats 800000 in
theorem zs_X8_nextEnd {d : Nat} {s : az_S} (hd : 3 ≤ d) {S : zR} {h : Nat} (hR : zRel (s 3) S) (hI : zInv S h) (hh : h ≤ 10000) : az_R d am_m_X8_nextEnd 0 (az_ini (am_mL am_m_X8_nextEnd) [az_r 1]) [] (s) (az_ret (some (az_i (zne S))) (s)) := by
  have hz := zI_h hI hh
  refine az_to 0 (pc2 := 0) (lv2 := [some (az_r 1), none, none]) (st2 := []) (s2 := s) rfl ?_
  refine az_to 4 (pc2 := 4) (lv2 := [some (az_r 1), some (az_i (-1)), some (az_i (0))]) (st2 := []) (s2 := s) rfl ?_
  exact zs_X8_nextEnd_L4 (by omega) hR hI hh _ 0 rfl (by omega)
set_option maxRecDepth 100000 in
set_option maxHeartbeats 800000 in
theorem zs_X5_copy_st18 {d : Nat} {s : az_S} (hd : 0 ≤ d) {q : Nat} (hq : q ≤ 1472) : az_R d am_m_X5_copy 0 (az_ini (am_mL am_m_X5_copy) [az_r 18, az_r 2, az_i (0), az_i (((q : Nat) : Int)), az_i (184)]) [] (s) (az_ret (none) (am_ur s 19 (va_cpy (s 3) (s 19) 0 q 184))) := by
  refine az_to 0 (pc2 := 0) (lv2 := [some (az_r 18), some (az_r 2), some (az_i (0)), some (az_i (((q : Nat) : Int))), some (az_i (184)), none, none]) (st2 := []) (s2 := s) rfl ?_
  refine az_to 1 (pc2 := 1) (lv2 := [some (az_r 18), some (az_r 2), some (az_i (0)), some (az_i (((q : Nat) : Int))), some (az_i (184)), none, none]) (st2 := [az_i (0)]) (s2 := s) rfl ?_
  refine az_ifc 20 4 rfl (by decide) ⟨by decide, by decide⟩ (fun h => absurd h (by unfold az_cnd; decide)) (fun _ => ?_)
  refine az_to 6 (pc2 := 13) (lv2 := [some (az_r 18), some (az_r 2), some (az_i (0)), some (az_i (((q : Nat) : Int))), some (az_i (184)), none, none]) (st2 := [az_i (0), az_i (0)]) (s2 := s) rfl ?_
  refine az_if2 20 16 rfl (by decide) ⟨by decide, by decide⟩ ⟨by decide, by decide⟩ (fun h => absurd h (by unfold az_cnd; decide)) (fun _ => ?_)
  refine az_to 4 (pc2 := 24) (lv2 := [some (az_r 18), some (az_r 2), some (az_i (0)), some (az_i (((q : Nat) : Int))), some (az_i (184)), some (az_i (1)), none]) (st2 := [az_i (((q : Nat) : Int))]) (s2 := s) rfl ?_
  refine az_ifc 43 27 rfl (by decide) (by first | assumption | exact ⟨by omega, by omega⟩) (fun h1 => ?_) (fun h1 => ?_)
  · have h1 : ((q : Nat) : Int) < 0 := h1
    exact absurd h1 (by omega)
  · have h1 : ¬ (((q : Nat) : Int) < 0) := h1
    refine az_to 6 (pc2 := 36) (lv2 := [some (az_r 18), some (az_r 2), some (az_i (0)), some (az_i (((q : Nat) : Int))), some (az_i (184)), some (az_i (1)), none]) (st2 := [az_i (1472), az_i (((q : Nat) : Int))]) (s2 := s) rfl ?_
    refine az_if2 43 39 rfl (by decide) (by first | assumption | exact ⟨by omega, by omega⟩) ⟨by decide, by decide⟩ (fun h2 => ?_) (fun h2 => ?_)
    · have h2 : 1472 < ((q : Nat) : Int) := h2
      exact absurd h2 (by omega)
    · have h2 : ¬ (1472 < ((q : Nat) : Int)) := h2
      refine az_to 4 (pc2 := 48) (lv2 := [some (az_r 18), some (az_r 2), some (az_i (0)), some (az_i (((q : Nat) : Int))), some (az_i (184)), some (az_i (1)), some (az_i (1))]) (st2 := [az_i (184)]) (s2 := s) rfl ?_
      refine az_ifc 76 51 rfl (by decide) ⟨by decide, by decide⟩ (fun h => absurd h (by unfold az_cnd; decide)) (fun _ => ?_)
      refine az_to 1 (pc2 := 53) (lv2 := [some (az_r 18), some (az_r 2), some (az_i (0)), some (az_i (((q : Nat) : Int))), some (az_i (184)), some (az_i (1)), some (az_i (1))]) (st2 := [az_i (1)]) (s2 := s) rfl ?_
      refine az_ifc 76 56 rfl (by decide) ⟨by decide, by decide⟩ (fun h => absurd h (by unfold az_cnd; decide)) (fun _ => ?_)
      refine az_to 1 (pc2 := 58) (lv2 := [some (az_r 18), some (az_r 2), some (az_i (0)), some (az_i (((q : Nat) : Int))), some (az_i (184)), some (az_i (1)), some (az_i (1))]) (st2 := [az_i (1)]) (s2 := s) rfl ?_
      refine az_ifc 76 61 rfl (by decide) ⟨by decide, by decide⟩ (fun h => absurd h (by unfold az_cnd; decide)) (fun _ => ?_)
      refine az_to 7 (pc2 := 73) (lv2 := [some (az_r 18), some (az_r 2), some (az_i (0)), some (az_i (((q : Nat) : Int))), some (az_i (184)), some (az_i (1)), some (az_i (1))]) (st2 := [az_i (184), az_i (((q : Nat) : Int)), az_r 19, az_i (0), az_r 3]) (s2 := s) rfl ?_
      refine az_cpy 76 rfl rfl ⟨rfl, by decide, rfl, by decide, by decide⟩ rfl rfl (by refine ⟨?_, ?_, ?_, ?_, ?_⟩ <;> omega) ?_
      refine az_ret0 rfl rfl ?_
      exact ⟨rfl, rfl⟩
set_option maxRecDepth 100000 in
set_option maxHeartbeats 800000 in
theorem zs_X5_copy_st20 {d : Nat} {s : az_S} (hd : 0 ≤ d) {q : Nat} (hq : q ≤ 0) : az_R d am_m_X5_copy 0 (az_ini (am_mL am_m_X5_copy) [az_r 20, az_r 2, az_i (0), az_i (((q : Nat) : Int)), az_i (184)]) [] (s) (az_ret (none) (am_ur s 21 (va_cpy (s 3) (s 21) 0 q 184))) := by
  refine az_to 0 (pc2 := 0) (lv2 := [some (az_r 20), some (az_r 2), some (az_i (0)), some (az_i (((q : Nat) : Int))), some (az_i (184)), none, none]) (st2 := []) (s2 := s) rfl ?_
  refine az_to 1 (pc2 := 1) (lv2 := [some (az_r 20), some (az_r 2), some (az_i (0)), some (az_i (((q : Nat) : Int))), some (az_i (184)), none, none]) (st2 := [az_i (0)]) (s2 := s) rfl ?_
  refine az_ifc 20 4 rfl (by decide) ⟨by decide, by decide⟩ (fun h => absurd h (by unfold az_cnd; decide)) (fun _ => ?_)
  refine az_to 6 (pc2 := 13) (lv2 := [some (az_r 20), some (az_r 2), some (az_i (0)), some (az_i (((q : Nat) : Int))), some (az_i (184)), none, none]) (st2 := [az_i (0), az_i (0)]) (s2 := s) rfl ?_
  refine az_if2 20 16 rfl (by decide) ⟨by decide, by decide⟩ ⟨by decide, by decide⟩ (fun h => absurd h (by unfold az_cnd; decide)) (fun _ => ?_)
  refine az_to 4 (pc2 := 24) (lv2 := [some (az_r 20), some (az_r 2), some (az_i (0)), some (az_i (((q : Nat) : Int))), some (az_i (184)), some (az_i (1)), none]) (st2 := [az_i (((q : Nat) : Int))]) (s2 := s) rfl ?_
  refine az_ifc 43 27 rfl (by decide) (by first | assumption | exact ⟨by omega, by omega⟩) (fun h1 => ?_) (fun h1 => ?_)
  · have h1 : ((q : Nat) : Int) < 0 := h1
    exact absurd h1 (by omega)
  · have h1 : ¬ (((q : Nat) : Int) < 0) := h1
    refine az_to 6 (pc2 := 36) (lv2 := [some (az_r 20), some (az_r 2), some (az_i (0)), some (az_i (((q : Nat) : Int))), some (az_i (184)), some (az_i (1)), none]) (st2 := [az_i (0), az_i (((q : Nat) : Int))]) (s2 := s) rfl ?_
    refine az_if2 43 39 rfl (by decide) (by first | assumption | exact ⟨by omega, by omega⟩) ⟨by decide, by decide⟩ (fun h2 => ?_) (fun h2 => ?_)
    · have h2 : 0 < ((q : Nat) : Int) := h2
      exact absurd h2 (by omega)
    · have h2 : ¬ (0 < ((q : Nat) : Int)) := h2
      refine az_to 4 (pc2 := 48) (lv2 := [some (az_r 20), some (az_r 2), some (az_i (0)), some (az_i (((q : Nat) : Int))), some (az_i (184)), some (az_i (1)), some (az_i (1))]) (st2 := [az_i (184)]) (s2 := s) rfl ?_
      refine az_ifc 76 51 rfl (by decide) ⟨by decide, by decide⟩ (fun h => absurd h (by unfold az_cnd; decide)) (fun _ => ?_)
      refine az_to 1 (pc2 := 53) (lv2 := [some (az_r 20), some (az_r 2), some (az_i (0)), some (az_i (((q : Nat) : Int))), some (az_i (184)), some (az_i (1)), some (az_i (1))]) (st2 := [az_i (1)]) (s2 := s) rfl ?_
      refine az_ifc 76 56 rfl (by decide) ⟨by decide, by decide⟩ (fun h => absurd h (by unfold az_cnd; decide)) (fun _ => ?_)
      refine az_to 1 (pc2 := 58) (lv2 := [some (az_r 20), some (az_r 2), some (az_i (0)), some (az_i (((q : Nat) : Int))), some (az_i (184)), some (az_i (1)), some (az_i (1))]) (st2 := [az_i (1)]) (s2 := s) rfl ?_
      refine az_ifc 76 61 rfl (by decide) ⟨by decide, by decide⟩ (fun h => absurd h (by unfold az_cnd; decide)) (fun _ => ?_)
      refine az_to 7 (pc2 := 73) (lv2 := [some (az_r 20), some (az_r 2), some (az_i (0)), some (az_i (((q : Nat) : Int))), some (az_i (184)), some (az_i (1)), some (az_i (1))]) (st2 := [az_i (184), az_i (((q : Nat) : Int)), az_r 21, az_i (0), az_r 3]) (s2 := s) rfl ?_
      refine az_cpy 76 rfl rfl ⟨rfl, by decide, rfl, by decide, by decide⟩ rfl rfl (by refine ⟨?_, ?_, ?_, ?_, ?_⟩ <;> omega) ?_
      refine az_ret0 rfl rfl ?_
      exact ⟨rfl, rfl⟩
set_option maxRecDepth 100000 in
set_option maxHeartbeats 800000 in
theorem zs_X5_copy_ld18 {d : Nat} {s : az_S} (hd : 0 ≤ d) {q : Nat} (hq : q ≤ 1472) : az_R d am_m_X5_copy 0 (az_ini (am_mL am_m_X5_copy) [az_r 2, az_r 18, az_i (((q : Nat) : Int)), az_i (0), az_i (184)]) [] (s) (az_ret (none) (am_ur s 3 (va_cpy (s 19) (s 3) q 0 184))) := by
  refine az_to 0 (pc2 := 0) (lv2 := [some (az_r 2), some (az_r 18), some (az_i (((q : Nat) : Int))), some (az_i (0)), some (az_i (184)), none, none]) (st2 := []) (s2 := s) rfl ?_
  refine az_to 1 (pc2 := 1) (lv2 := [some (az_r 2), some (az_r 18), some (az_i (((q : Nat) : Int))), some (az_i (0)), some (az_i (184)), none, none]) (st2 := [az_i (((q : Nat) : Int))]) (s2 := s) rfl ?_
  refine az_ifc 20 4 rfl (by decide) (by first | assumption | exact ⟨by omega, by omega⟩) (fun h1 => ?_) (fun h1 => ?_)
  · have h1 : ((q : Nat) : Int) < 0 := h1
    exact absurd h1 (by omega)
  · have h1 : ¬ (((q : Nat) : Int) < 0) := h1
    refine az_to 6 (pc2 := 13) (lv2 := [some (az_r 2), some (az_r 18), some (az_i (((q : Nat) : Int))), some (az_i (0)), some (az_i (184)), none, none]) (st2 := [az_i (1472), az_i (((q : Nat) : Int))]) (s2 := s) rfl ?_
    refine az_if2 20 16 rfl (by decide) (by first | assumption | exact ⟨by omega, by omega⟩) ⟨by decide, by decide⟩ (fun h2 => ?_) (fun h2 => ?_)
    · have h2 : 1472 < ((q : Nat) : Int) := h2
      exact absurd h2 (by omega)
    · have h2 : ¬ (1472 < ((q : Nat) : Int)) := h2
      refine az_to 4 (pc2 := 24) (lv2 := [some (az_r 2), some (az_r 18), some (az_i (((q : Nat) : Int))), some (az_i (0)), some (az_i (184)), some (az_i (1)), none]) (st2 := [az_i (0)]) (s2 := s) rfl ?_
      refine az_ifc 43 27 rfl (by decide) ⟨by decide, by decide⟩ (fun h => absurd h (by unfold az_cnd; decide)) (fun _ => ?_)
      refine az_to 6 (pc2 := 36) (lv2 := [some (az_r 2), some (az_r 18), some (az_i (((q : Nat) : Int))), some (az_i (0)), some (az_i (184)), some (az_i (1)), none]) (st2 := [az_i (0), az_i (0)]) (s2 := s) rfl ?_
      refine az_if2 43 39 rfl (by decide) ⟨by decide, by decide⟩ ⟨by decide, by decide⟩ (fun h => absurd h (by unfold az_cnd; decide)) (fun _ => ?_)
      refine az_to 4 (pc2 := 48) (lv2 := [some (az_r 2), some (az_r 18), some (az_i (((q : Nat) : Int))), some (az_i (0)), some (az_i (184)), some (az_i (1)), some (az_i (1))]) (st2 := [az_i (184)]) (s2 := s) rfl ?_
      refine az_ifc 76 51 rfl (by decide) ⟨by decide, by decide⟩ (fun h => absurd h (by unfold az_cnd; decide)) (fun _ => ?_)
      refine az_to 1 (pc2 := 53) (lv2 := [some (az_r 2), some (az_r 18), some (az_i (((q : Nat) : Int))), some (az_i (0)), some (az_i (184)), some (az_i (1)), some (az_i (1))]) (st2 := [az_i (1)]) (s2 := s) rfl ?_
      refine az_ifc 76 56 rfl (by decide) ⟨by decide, by decide⟩ (fun h => absurd h (by unfold az_cnd; decide)) (fun _ => ?_)
      refine az_to 1 (pc2 := 58) (lv2 := [some (az_r 2), some (az_r 18), some (az_i (((q : Nat) : Int))), some (az_i (0)), some (az_i (184)), some (az_i (1)), some (az_i (1))]) (st2 := [az_i (1)]) (s2 := s) rfl ?_
      refine az_ifc 76 61 rfl (by decide) ⟨by decide, by decide⟩ (fun h => absurd h (by unfold az_cnd; decide)) (fun _ => ?_)
      refine az_to 7 (pc2 := 73) (lv2 := [some (az_r 2), some (az_r 18), some (az_i (((q : Nat) : Int))), some (az_i (0)), some (az_i (184)), some (az_i (1)), some (az_i (1))]) (st2 := [az_i (184), az_i (0), az_r 3, az_i (((q : Nat) : Int)), az_r 19]) (s2 := s) rfl ?_
      refine az_cpy 76 rfl rfl ⟨rfl, by decide, rfl, by decide, by decide⟩ rfl rfl (by refine ⟨?_, ?_, ?_, ?_, ?_⟩ <;> omega) ?_
      refine az_ret0 rfl rfl ?_
      exact ⟨rfl, rfl⟩
set_option maxRecDepth 100000 in
set_option maxHeartbeats 800000 in
theorem zs_X5_copy_ld20 {d : Nat} {s : az_S} (hd : 0 ≤ d) {q : Nat} (hq : q ≤ 0) : az_R d am_m_X5_copy 0 (az_ini (am_mL am_m_X5_copy) [az_r 2, az_r 20, az_i (((q : Nat) : Int)), az_i (0), az_i (184)]) [] (s) (az_ret (none) (am_ur s 3 (va_cpy (s 21) (s 3) q 0 184))) := by
  refine az_to 0 (pc2 := 0) (lv2 := [some (az_r 2), some (az_r 20), some (az_i (((q : Nat) : Int))), some (az_i (0)), some (az_i (184)), none, none]) (st2 := []) (s2 := s) rfl ?_
  refine az_to 1 (pc2 := 1) (lv2 := [some (az_r 2), some (az_r 20), some (az_i (((q : Nat) : Int))), some (az_i (0)), some (az_i (184)), none, none]) (st2 := [az_i (((q : Nat) : Int))]) (s2 := s) rfl ?_
  refine az_ifc 20 4 rfl (by decide) (by first | assumption | exact ⟨by omega, by omega⟩) (fun h1 => ?_) (fun h1 => ?_)
  · have h1 : ((q : Nat) : Int) < 0 := h1
    exact absurd h1 (by omega)
  · have h1 : ¬ (((q : Nat) : Int) < 0) := h1
    refine az_to 6 (pc2 := 13) (lv2 := [some (az_r 2), some (az_r 20), some (az_i (((q : Nat) : Int))), some (az_i (0)), some (az_i (184)), none, none]) (st2 := [az_i (0), az_i (((q : Nat) : Int))]) (s2 := s) rfl ?_
    refine az_if2 20 16 rfl (by decide) (by first | assumption | exact ⟨by omega, by omega⟩) ⟨by decide, by decide⟩ (fun h2 => ?_) (fun h2 => ?_)
    · have h2 : 0 < ((q : Nat) : Int) := h2
      exact absurd h2 (by omega)
    · have h2 : ¬ (0 < ((q : Nat) : Int)) := h2
      refine az_to 4 (pc2 := 24) (lv2 := [some (az_r 2), some (az_r 20), some (az_i (((q : Nat) : Int))), some (az_i (0)), some (az_i (184)), some (az_i (1)), none]) (st2 := [az_i (0)]) (s2 := s) rfl ?_
      refine az_ifc 43 27 rfl (by decide) ⟨by decide, by decide⟩ (fun h => absurd h (by unfold az_cnd; decide)) (fun _ => ?_)
      refine az_to 6 (pc2 := 36) (lv2 := [some (az_r 2), some (az_r 20), some (az_i (((q : Nat) : Int))), some (az_i (0)), some (az_i (184)), some (az_i (1)), none]) (st2 := [az_i (0), az_i (0)]) (s2 := s) rfl ?_
      refine az_if2 43 39 rfl (by decide) ⟨by decide, by decide⟩ ⟨by decide, by decide⟩ (fun h => absurd h (by unfold az_cnd; decide)) (fun _ => ?_)
      refine az_to 4 (pc2 := 48) (lv2 := [some (az_r 2), some (az_r 20), some (az_i (((q : Nat) : Int))), some (az_i (0)), some (az_i (184)), some (az_i (1)), some (az_i (1))]) (st2 := [az_i (184)]) (s2 := s) rfl ?_
      refine az_ifc 76 51 rfl (by decide) ⟨by decide, by decide⟩ (fun h => absurd h (by unfold az_cnd; decide)) (fun _ => ?_)
      refine az_to 1 (pc2 := 53) (lv2 := [some (az_r 2), some (az_r 20), some (az_i (((q : Nat) : Int))), some (az_i (0)), some (az_i (184)), some (az_i (1)), some (az_i (1))]) (st2 := [az_i (1)]) (s2 := s) rfl ?_
      refine az_ifc 76 56 rfl (by decide) ⟨by decide, by decide⟩ (fun h => absurd h (by unfold az_cnd; decide)) (fun _ => ?_)
      refine az_to 1 (pc2 := 58) (lv2 := [some (az_r 2), some (az_r 20), some (az_i (((q : Nat) : Int))), some (az_i (0)), some (az_i (184)), some (az_i (1)), some (az_i (1))]) (st2 := [az_i (1)]) (s2 := s) rfl ?_
      refine az_ifc 76 61 rfl (by decide) ⟨by decide, by decide⟩ (fun h => absurd h (by unfold az_cnd; decide)) (fun _ => ?_)
      refine az_to 7 (pc2 := 73) (lv2 := [some (az_r 2), some (az_r 20), some (az_i (((q : Nat) : Int))), some (az_i (0)), some (az_i (184)), some (az_i (1)), some (az_i (1))]) (st2 := [az_i (184), az_i (0), az_r 3, az_i (((q : Nat) : Int)), az_r 21]) (s2 := s) rfl ?_
      refine az_cpy 76 rfl rfl ⟨rfl, by decide, rfl, by decide, by decide⟩ rfl rfl (by refine ⟨?_, ?_, ?_, ?_, ?_⟩ <;> omega) ?_
      refine az_ret0 rfl rfl ?_
      exact ⟨rfl, rfl⟩
set_option maxRecDepth 100000 in
set_option maxHeartbeats 800000 in
theorem zs_X8_storeIn_18 {d : Nat} {s : az_S} (hd : 1 ≤ d) {q : Nat} (hq : q ≤ 1472) : az_R d am_m_X8_storeIn 0 (az_ini (am_mL am_m_X8_storeIn) [az_r 1, az_r 18, az_i (((q : Nat) : Int))]) [] (s) (az_ret (none) (am_ur s 19 (va_cpy (s 3) (s 19) 0 q 184))) := by
  refine az_to 0 (pc2 := 0) (lv2 := [some (az_r 1), some (az_r 18), some (az_i (((q : Nat) : Int)))]) (st2 := []) (s2 := s) rfl ?_
  refine az_to 6 (pc2 := 10) (lv2 := [some (az_r 1), some (az_r 18), some (az_i (((q : Nat) : Int)))]) (st2 := [az_i (184), az_i (((q : Nat) : Int)), az_i (0), az_r 2, az_r 18]) (s2 := s) rfl ?_
  refine az_clv (v := none) (t := am_ur s 19 (va_cpy (s 3) (s 19) 0 q 184)) (m2 := am_m_X5_copy) (as := [az_r 18, az_r 2, az_i (0), az_i (((q : Nat) : Int)), az_i (184)]) (rest := []) 13 rfl rfl ⟨rfl, rfl⟩ (by omega) (zs_X5_copy_st18 (s := s) (q := q) (by omega) (by omega)) ?_
  refine az_to 0 (pc2 := 13) (lv2 := [some (az_r 1), some (az_r 18), some (az_i (((q : Nat) : Int)))]) (st2 := []) (s2 := am_ur s 19 (va_cpy (s 3) (s 19) 0 q 184)) rfl ?_
  refine az_ret0 rfl rfl ?_
  exact ⟨rfl, rfl⟩
set_option maxRecDepth 100000 in
set_option maxHeartbeats 800000 in
theorem zs_X8_loadFrom_18 {d : Nat} {s : az_S} (hd : 1 ≤ d) {q : Nat} (hq : q ≤ 1472) : az_R d am_m_X8_loadFrom 0 (az_ini (am_mL am_m_X8_loadFrom) [az_r 1, az_r 18, az_i (((q : Nat) : Int))]) [] (s) (az_ret (none) (am_ur s 3 (va_cpy (s 19) (s 3) q 0 184))) := by
  refine az_to 0 (pc2 := 0) (lv2 := [some (az_r 1), some (az_r 18), some (az_i (((q : Nat) : Int)))]) (st2 := []) (s2 := s) rfl ?_
  refine az_to 6 (pc2 := 10) (lv2 := [some (az_r 1), some (az_r 18), some (az_i (((q : Nat) : Int)))]) (st2 := [az_i (184), az_i (0), az_i (((q : Nat) : Int)), az_r 18, az_r 2]) (s2 := s) rfl ?_
  refine az_clv (v := none) (t := am_ur s 3 (va_cpy (s 19) (s 3) q 0 184)) (m2 := am_m_X5_copy) (as := [az_r 2, az_r 18, az_i (((q : Nat) : Int)), az_i (0), az_i (184)]) (rest := []) 13 rfl rfl ⟨rfl, rfl⟩ (by omega) (zs_X5_copy_ld18 (s := s) (q := q) (by omega) (by omega)) ?_
  refine az_to 0 (pc2 := 13) (lv2 := [some (az_r 1), some (az_r 18), some (az_i (((q : Nat) : Int)))]) (st2 := []) (s2 := am_ur s 3 (va_cpy (s 19) (s 3) q 0 184)) rfl ?_
  refine az_ret0 rfl rfl ?_
  exact ⟨rfl, rfl⟩
set_option maxRecDepth 100000 in
set_option maxHeartbeats 800000 in
theorem zs_X8_storeIn_20 {d : Nat} {s : az_S} (hd : 1 ≤ d) {q : Nat} (hq : q ≤ 0) : az_R d am_m_X8_storeIn 0 (az_ini (am_mL am_m_X8_storeIn) [az_r 1, az_r 20, az_i (((q : Nat) : Int))]) [] (s) (az_ret (none) (am_ur s 21 (va_cpy (s 3) (s 21) 0 q 184))) := by
  refine az_to 0 (pc2 := 0) (lv2 := [some (az_r 1), some (az_r 20), some (az_i (((q : Nat) : Int)))]) (st2 := []) (s2 := s) rfl ?_
  refine az_to 6 (pc2 := 10) (lv2 := [some (az_r 1), some (az_r 20), some (az_i (((q : Nat) : Int)))]) (st2 := [az_i (184), az_i (((q : Nat) : Int)), az_i (0), az_r 2, az_r 20]) (s2 := s) rfl ?_
  refine az_clv (v := none) (t := am_ur s 21 (va_cpy (s 3) (s 21) 0 q 184)) (m2 := am_m_X5_copy) (as := [az_r 20, az_r 2, az_i (0), az_i (((q : Nat) : Int)), az_i (184)]) (rest := []) 13 rfl rfl ⟨rfl, rfl⟩ (by omega) (zs_X5_copy_st20 (s := s) (q := q) (by omega) (by omega)) ?_
  refine az_to 0 (pc2 := 13) (lv2 := [some (az_r 1), some (az_r 20), some (az_i (((q : Nat) : Int)))]) (st2 := []) (s2 := am_ur s 21 (va_cpy (s 3) (s 21) 0 q 184)) rfl ?_
  refine az_ret0 rfl rfl ?_
  exact ⟨rfl, rfl⟩
set_option maxRecDepth 100000 in
set_option maxHeartbeats 800000 in
theorem zs_X8_loadFrom_20 {d : Nat} {s : az_S} (hd : 1 ≤ d) {q : Nat} (hq : q ≤ 0) : az_R d am_m_X8_loadFrom 0 (az_ini (am_mL am_m_X8_loadFrom) [az_r 1, az_r 20, az_i (((q : Nat) : Int))]) [] (s) (az_ret (none) (am_ur s 3 (va_cpy (s 21) (s 3) q 0 184))) := by
  refine az_to 0 (pc2 := 0) (lv2 := [some (az_r 1), some (az_r 20), some (az_i (((q : Nat) : Int)))]) (st2 := []) (s2 := s) rfl ?_
  refine az_to 6 (pc2 := 10) (lv2 := [some (az_r 1), some (az_r 20), some (az_i (((q : Nat) : Int)))]) (st2 := [az_i (184), az_i (0), az_i (((q : Nat) : Int)), az_r 20, az_r 2]) (s2 := s) rfl ?_
  refine az_clv (v := none) (t := am_ur s 3 (va_cpy (s 21) (s 3) q 0 184)) (m2 := am_m_X5_copy) (as := [az_r 2, az_r 20, az_i (((q : Nat) : Int)), az_i (0), az_i (184)]) (rest := []) 13 rfl rfl ⟨rfl, rfl⟩ (by omega) (zs_X5_copy_ld20 (s := s) (q := q) (by omega) (by omega)) ?_
  refine az_to 0 (pc2 := 13) (lv2 := [some (az_r 1), some (az_r 20), some (az_i (((q : Nat) : Int)))]) (st2 := []) (s2 := am_ur s 3 (va_cpy (s 21) (s 3) q 0 184)) rfl ?_
  refine az_ret0 rfl rfl ?_
  exact ⟨rfl, rfl⟩
set_option maxRecDepth 100000 in
set_option maxHeartbeats 800000 in
theorem zs_X6_done {d : Nat} {s : az_S} (hd : 0 ≤ d) {v : Int} : az_R d am_m_X6_done 0 (az_ini (am_mL am_m_X6_done) [az_r 5, az_i (v)]) [] (s) (az_ret (some (az_r 5)) (am_up (am_up s 5 0 (0)) 5 1 (v))) := by
  refine az_to 0 (pc2 := 0) (lv2 := [some (az_r 5), some (az_i (v))]) (st2 := []) (s2 := s) rfl ?_
  refine az_to 7 (pc2 := 11) (lv2 := [some (az_r 5), some (az_i (v))]) (st2 := [az_r 5]) (s2 := am_up (am_up s 5 0 (0)) 5 1 (v)) rfl ?_
  refine az_retA rfl rfl ?_
  exact ⟨rfl, rfl⟩
set_option maxRecDepth 100000 in
set_option maxHeartbeats 800000 in
theorem zs_X6_noSuch {d : Nat} {s : az_S} (hd : 0 ≤ d)  : az_R d am_m_X6_noSuch 0 (az_ini (am_mL am_m_X6_noSuch) [az_r 5]) [] (s) (az_ret (some (az_r 5)) (am_up s 5 0 (1))) := by
  refine az_to 0 (pc2 := 0) (lv2 := [some (az_r 5)]) (st2 := []) (s2 := s) rfl ?_
  refine az_to 4 (pc2 := 6) (lv2 := [some (az_r 5)]) (st2 := [az_r 5]) (s2 := am_up s 5 0 (1)) rfl ?_
  refine az_retA rfl rfl ?_
  exact ⟨rfl, rfl⟩
set_option maxRecDepth 100000 in
set_option maxHeartbeats 800000 in
theorem zs_X6_outOfRange {d : Nat} {s : az_S} (hd : 0 ≤ d)  : az_R d am_m_X6_outOfRange 0 (az_ini (am_mL am_m_X6_outOfRange) [az_r 5]) [] (s) (az_ret (some (az_r 5)) (am_up s 5 0 (2))) := by
  refine az_to 0 (pc2 := 0) (lv2 := [some (az_r 5)]) (st2 := []) (s2 := s) rfl ?_
  refine az_to 4 (pc2 := 6) (lv2 := [some (az_r 5)]) (st2 := [az_r 5]) (s2 := am_up s 5 0 (2)) rfl ?_
  refine az_retA rfl rfl ?_
  exact ⟨rfl, rfl⟩
set_option maxRecDepth 100000 in
set_option maxHeartbeats 800000 in
theorem zs_X6_refused {d : Nat} {s : az_S} (hd : 0 ≤ d) {r w : Int} : az_R d am_m_X6_refused 0 (az_ini (am_mL am_m_X6_refused) [az_r 5, az_i (r), az_i (w)]) [] (s) (az_ret (some (az_r 5)) (am_up (am_up (am_up s 5 0 (3)) 5 2 (r)) 5 3 (w))) := by
  refine az_to 0 (pc2 := 0) (lv2 := [some (az_r 5), some (az_i (r)), some (az_i (w))]) (st2 := []) (s2 := s) rfl ?_
  refine az_to 10 (pc2 := 16) (lv2 := [some (az_r 5), some (az_i (r)), some (az_i (w))]) (st2 := [az_r 5]) (s2 := am_up (am_up (am_up s 5 0 (3)) 5 2 (r)) 5 3 (w)) rfl ?_
  refine az_retA rfl rfl ?_
  exact ⟨rfl, rfl⟩
set_option maxRecDepth 100000 in
set_option maxHeartbeats 800000 in
theorem zs_X4_keep {d : Nat} {s : az_S} (hd : 0 ≤ d)  : az_R d am_m_X4_keep 0 (az_ini (am_mL am_m_X4_keep) [az_r 33, az_r 5]) [] (s) (az_ret (none) (am_up (am_up (am_up (am_up s 33 0 (s 5 2)) 33 1 (s 5 3)) 33 2 (0)) 33 3 (0))) := by
  refine az_to 0 (pc2 := 0) (lv2 := [some (az_r 33), some (az_r 5)]) (st2 := []) (s2 := s) rfl ?_
  refine az_to 14 (pc2 := 26) (lv2 := [some (az_r 33), some (az_r 5)]) (st2 := []) (s2 := am_up (am_up (am_up (am_up s 33 0 (s 5 2)) 33 1 ((am_up s 33 0 (s 5 2)) 5 3)) 33 2 (0)) 33 3 (0)) rfl ?_
  refine az_ret0 rfl rfl ?_
  exact ⟨rfl, rfl⟩
set_option maxRecDepth 100000 in
set_option maxHeartbeats 800000 in
theorem zs_X2_prepare {d : Nat} {s : az_S} (hd : 2 ≤ d) {q : Nat} (hp : s 17 1 = ((q : Nat) : Int)) (hq : q ≤ 8) : az_R d am_m_X2_prepare 0 (az_ini (am_mL am_m_X2_prepare) [az_r 17, az_r 1]) [] (s) (az_ret (none) (am_ur s 19 (va_cpy (s 3) (s 19) 0 (q * 184) 184))) := by
  refine az_to 0 (pc2 := 0) (lv2 := [some (az_r 17), some (az_r 1)]) (st2 := []) (s2 := s) rfl ?_
  refine az_to 5 (pc2 := 9) (lv2 := [some (az_r 17), some (az_r 1)]) (st2 := [az_i (s 17 1), az_r 18, az_r 1]) (s2 := s) rfl ?_
  refine az_to 0 (pc2 := 9) (lv2 := [some (az_r 17), some (az_r 1)]) (st2 := [az_i (((q : Nat) : Int)), az_r 18, az_r 1]) (s2 := s) (by rw [hp]; rfl) ?_
  refine az_to 2 (pc2 := 13) (lv2 := [some (az_r 17), some (az_r 1)]) (st2 := [az_i ((((q : Nat) : Int) * 184)), az_r 18, az_r 1]) (s2 := s) rfl ?_
  refine az_clv (v := none) (t := am_ur s 19 (va_cpy (s 3) (s 19) 0 (q * 184) 184)) (m2 := am_m_X8_storeIn) (as := [az_r 1, az_r 18, az_i ((((q : Nat) : Int) * 184))]) (rest := []) 16 rfl rfl ⟨rfl, rfl⟩ (by omega) (zs_X8_storeIn_18 (s := s) (q := (q * 184)) (by omega) (by omega)) ?_
  refine az_to 0 (pc2 := 16) (lv2 := [some (az_r 17), some (az_r 1)]) (st2 := []) (s2 := am_ur s 19 (va_cpy (s 3) (s 19) 0 (q * 184) 184)) rfl ?_
  refine az_ret0 rfl rfl ?_
  exact ⟨rfl, rfl⟩
set_option maxRecDepth 100000 in
set_option maxHeartbeats 800000 in
theorem zs_X2_takeBack {d : Nat} {s : az_S} (hd : 2 ≤ d) {q : Nat} (hp : s 17 1 = ((q : Nat) : Int)) (hq : q ≤ 8) : az_R d am_m_X2_takeBack 0 (az_ini (am_mL am_m_X2_takeBack) [az_r 17, az_r 1]) [] (s) (az_ret (none) (am_ur s 3 (va_cpy (s 19) (s 3) (q * 184) 0 184))) := by
  refine az_to 0 (pc2 := 0) (lv2 := [some (az_r 17), some (az_r 1)]) (st2 := []) (s2 := s) rfl ?_
  refine az_to 5 (pc2 := 9) (lv2 := [some (az_r 17), some (az_r 1)]) (st2 := [az_i (s 17 1), az_r 18, az_r 1]) (s2 := s) rfl ?_
  refine az_to 0 (pc2 := 9) (lv2 := [some (az_r 17), some (az_r 1)]) (st2 := [az_i (((q : Nat) : Int)), az_r 18, az_r 1]) (s2 := s) (by rw [hp]; rfl) ?_
  refine az_to 2 (pc2 := 13) (lv2 := [some (az_r 17), some (az_r 1)]) (st2 := [az_i ((((q : Nat) : Int) * 184)), az_r 18, az_r 1]) (s2 := s) rfl ?_
  refine az_clv (v := none) (t := am_ur s 3 (va_cpy (s 19) (s 3) (q * 184) 0 184)) (m2 := am_m_X8_loadFrom) (as := [az_r 1, az_r 18, az_i ((((q : Nat) : Int) * 184))]) (rest := []) 16 rfl rfl ⟨rfl, rfl⟩ (by omega) (zs_X8_loadFrom_18 (s := s) (q := (q * 184)) (by omega) (by omega)) ?_
  refine az_to 0 (pc2 := 16) (lv2 := [some (az_r 17), some (az_r 1)]) (st2 := []) (s2 := am_ur s 3 (va_cpy (s 19) (s 3) (q * 184) 0 184)) rfl ?_
  refine az_ret0 rfl rfl ?_
  exact ⟨rfl, rfl⟩
set_option maxRecDepth 100000 in
set_option maxHeartbeats 800000 in
theorem zs_X2_count {d : Nat} {s : az_S} (hd : 0 ≤ d)  : az_R d am_m_X2_count 0 (az_ini (am_mL am_m_X2_count) [az_r 17]) [] (s) (az_ret (some (az_i (s 17 2))) (s)) := by
  refine az_to 0 (pc2 := 0) (lv2 := [some (az_r 17)]) (st2 := []) (s2 := s) rfl ?_
  refine az_to 2 (pc2 := 4) (lv2 := [some (az_r 17)]) (st2 := [az_i (s 17 2)]) (s2 := s) rfl ?_
  refine az_retI rfl rfl ?_
  exact ⟨rfl, rfl⟩
set_option maxRecDepth 100000 in
set_option maxHeartbeats 800000 in
theorem zs_X2_forget {d : Nat} {s : az_S} (hd : 0 ≤ d)  : az_R d am_m_X2_forget 0 (az_ini (am_mL am_m_X2_forget) [az_r 17]) [] (s) (az_ret (none) (am_up s 17 2 (0))) := by
  refine az_to 0 (pc2 := 0) (lv2 := [some (az_r 17)]) (st2 := []) (s2 := s) rfl ?_
  refine az_to 3 (pc2 := 5) (lv2 := [some (az_r 17)]) (st2 := []) (s2 := am_up s 17 2 (0)) rfl ?_
  refine az_ret0 rfl rfl ?_
  exact ⟨rfl, rfl⟩
set_option maxRecDepth 100000 in
set_option maxHeartbeats 800000 in
theorem zs_X3_length_22 {d : Nat} {s : az_S} (hd : 0 ≤ d)  : az_R d am_m_X3_length 0 (az_ini (am_mL am_m_X3_length) [az_r 22]) [] (s) (az_ret (some (az_i (s 22 2))) (s)) := by
  refine az_to 0 (pc2 := 0) (lv2 := [some (az_r 22)]) (st2 := []) (s2 := s) rfl ?_
  refine az_to 2 (pc2 := 4) (lv2 := [some (az_r 22)]) (st2 := [az_i (s 22 2)]) (s2 := s) rfl ?_
  refine az_retI rfl rfl ?_
  exact ⟨rfl, rfl⟩
set_option maxRecDepth 100000 in
set_option maxHeartbeats 800000 in
theorem zs_X3_clear_22 {d : Nat} {s : az_S} (hd : 0 ≤ d)  : az_R d am_m_X3_clear 0 (az_ini (am_mL am_m_X3_clear) [az_r 22]) [] (s) (az_ret (none) (am_up s 22 2 (0))) := by
  refine az_to 0 (pc2 := 0) (lv2 := [some (az_r 22)]) (st2 := []) (s2 := s) rfl ?_
  refine az_to 3 (pc2 := 5) (lv2 := [some (az_r 22)]) (st2 := []) (s2 := am_up s 22 2 (0)) rfl ?_
  refine az_ret0 rfl rfl ?_
  exact ⟨rfl, rfl⟩
set_option maxRecDepth 100000 in
set_option maxHeartbeats 800000 in
theorem zs_X3_length_30 {d : Nat} {s : az_S} (hd : 0 ≤ d)  : az_R d am_m_X3_length 0 (az_ini (am_mL am_m_X3_length) [az_r 30]) [] (s) (az_ret (some (az_i (s 30 2))) (s)) := by
  refine az_to 0 (pc2 := 0) (lv2 := [some (az_r 30)]) (st2 := []) (s2 := s) rfl ?_
  refine az_to 2 (pc2 := 4) (lv2 := [some (az_r 30)]) (st2 := [az_i (s 30 2)]) (s2 := s) rfl ?_
  refine az_retI rfl rfl ?_
  exact ⟨rfl, rfl⟩
set_option maxRecDepth 100000 in
set_option maxHeartbeats 800000 in
theorem zs_X3_clear_30 {d : Nat} {s : az_S} (hd : 0 ≤ d)  : az_R d am_m_X3_clear 0 (az_ini (am_mL am_m_X3_clear) [az_r 30]) [] (s) (az_ret (none) (am_up s 30 2 (0))) := by
  refine az_to 0 (pc2 := 0) (lv2 := [some (az_r 30)]) (st2 := []) (s2 := s) rfl ?_
  refine az_to 3 (pc2 := 5) (lv2 := [some (az_r 30)]) (st2 := []) (s2 := am_up s 30 2 (0)) rfl ?_
  refine az_ret0 rfl rfl ?_
  exact ⟨rfl, rfl⟩

