/-! REFERENCE, 6: typing, lines, accounts, undo; written by program (wip/tools/zg/r6.py) -/
set_option maxRecDepth 100000 in
set_option maxHeartbeats 800000 in
theorem zs_X10_next_L5 {d : Nat} {s : az_S} (hd : 4 ≤ d) {S : zR} {h : Nat} (hS : s 35 = S) (hI : zInv S h) (hh : h ≤ 10000)   {Q : az_O → az_S → Prop} (K : az_R d am_m_X10_next 44 [some (az_r 34), some (az_i (zN1 S (zn S 1))), some (az_i ((zn S 1 : Nat) : Int))] [] s Q) : ∀ (mq : Nat) (k : Nat), mq = zn S 1 - k → (k ≤ zn S 1) → az_R d am_m_X10_next 5 [some (az_r 34), some (az_i (zN1 S k)), some (az_i (((k : Nat) : Int)))] [] (s) (Q) := by
  intro mq
  induction mq using Nat.strongRecOn with
  | _ mq ih =>
    intro k hm g0
    have hz := zI_h hI hh
    have hs0 : s 35 0 = ((zn S 0 : Nat) : Int) := by rw [hS, hz.2.1.1]
    have hs1 : s 35 1 = ((zn S 1 : Nat) : Int) := by rw [hS, hz.2.1.2.1]
    have hs2 : s 35 2 = ((zn S 2 : Nat) : Int) := by rw [hS, hz.2.1.2.2]
    have hs3 : s 35 3 = S 3 := by rw [hS]
    have hs5 : s 35 5 = S 5 := by rw [hS]
    have hn1 := zN1_r hI hh (k := k) (by omega)
    refine az_to 4 (pc2 := 11) (lv2 := [some (az_r 34), some (az_i (zN1 S k)), some (az_i (((k : Nat) : Int)))]) (st2 := [az_i (1), az_r 35, az_i (((k : Nat) : Int))]) (s2 := s) rfl ?_
    refine az_ld_i 12 rfl rfl (by constructor <;> omega) ⟨by decide, rfl⟩ ?_
    refine az_to 0 (pc2 := 12) (lv2 := [some (az_r 34), some (az_i (zN1 S k)), some (az_i (((k : Nat) : Int)))]) (st2 := [az_i (s 35 1), az_i (((k : Nat) : Int))]) (s2 := s) rfl ?_
    refine az_to 0 (pc2 := 12) (lv2 := [some (az_r 34), some (az_i (zN1 S k)), some (az_i (((k : Nat) : Int)))]) (st2 := [az_i (((zn S 1 : Nat) : Int)), az_i (((k : Nat) : Int))]) (s2 := s) (by rw [show s 35 1 = ((zn S 1 : Nat) : Int) from hs1]; rfl) ?_
    refine az_if2 44 15 rfl (by decide) (by first | assumption | exact ⟨by omega, by omega⟩) (by first | assumption | exact ⟨by omega, by omega⟩) (fun h1 => ?_) (fun h1 => ?_)
    · have h1 : ((zn S 1 : Nat) : Int) ≤ ((k : Nat) : Int) := h1
      obtain rfl : k = zn S 1 := by omega
      exact K
    · have h1 : ¬ (((zn S 1 : Nat) : Int) ≤ ((k : Nat) : Int)) := h1
      have hzt := zI_t hI hh (t := k) (by omega)
      refine az_to 2 (pc2 := 17) (lv2 := [some (az_r 34), some (az_i (zN1 S k)), some (az_i (((k : Nat) : Int)))]) (st2 := [az_i (((k : Nat) : Int)), az_r 34]) (s2 := s) rfl ?_
      refine az_clv (v := some (az_i (az_b (S 3 < zT S k 3)))) (t := s) (m2 := am_m_X10_holds) (as := [az_r 34, az_i (((k : Nat) : Int))]) (rest := []) 20 rfl rfl ⟨rfl, rfl⟩ (by omega) (zs_X10_holds (s := s) (t := k) (by omega) hS hI hh (by omega)) ?_
      refine az_to 0 (pc2 := 20) (lv2 := [some (az_r 34), some (az_i (zN1 S k)), some (az_i (((k : Nat) : Int)))]) (st2 := [az_i (az_b (S 3 < zT S k 3))]) (s2 := s) rfl ?_
      refine az_ifbe 36 23 rfl (by decide) (fun h2 => ?_) (fun h2 => ?_)
      · have h2 : ¬ (S 3 < zT S k 3) := h2
        refine az_to 4 (pc2 := 5) (lv2 := [some (az_r 34), some (az_i (zN1 S k)), some (az_i ((((k : Nat) : Int) + 1)))]) (st2 := []) (s2 := s) rfl ?_
        have e9 : zN1 S k = zN1 S (k + 1) := by
          show _ = zfo (k + 1) _ _
          show _ = (if S 3 < zT S k 3 then (if zN1 S k < zT S k 3 then zN1 S k else zT S k 3) else zN1 S k)
          first | (rw [if_pos (c := S 3 < zT S k 3) (by assumption)]) | (rw [if_neg (c := S 3 < zT S k 3) (by assumption)])
        rw [e9]
        exact ih _ (by omega) (k + 1) rfl (by omega)
      · have h2 : S 3 < zT S k 3 := h2
        refine az_to 4 (pc2 := 27) (lv2 := [some (az_r 34), some (az_i (zN1 S k)), some (az_i (((k : Nat) : Int)))]) (st2 := [az_i (3), az_i (((k : Nat) : Int)), az_r 34, az_i (zN1 S k)]) (s2 := s) rfl ?_
        refine az_clv (v := some (az_i (zT S k 3))) (t := s) (m2 := am_m_X10_ofTroll) (as := [az_r 34, az_i (((k : Nat) : Int)), az_i (3)]) (rest := [az_i (zN1 S k)]) 30 rfl rfl ⟨rfl, rfl⟩ (by omega) (zs_X10_ofTroll (s := s) (t := k) (k := 3) (by omega) hS (by omega) (by omega)) ?_
        refine az_to 0 (pc2 := 30) (lv2 := [some (az_r 34), some (az_i (zN1 S k)), some (az_i (((k : Nat) : Int)))]) (st2 := [az_i (zT S k 3), az_i (zN1 S k)]) (s2 := s) rfl ?_
        refine az_clv (v := some (az_i ((if (zN1 S k) < (zT S k 3) then (zN1 S k) else (zT S k 3))))) (t := s) (m2 := am_m_X10_lesser) (as := [az_i (zN1 S k), az_i (zT S k 3)]) (rest := []) 33 rfl rfl ⟨rfl, rfl⟩ (by omega) (zs_X10_lesser (s := s) (x := (zN1 S k)) (y := (zT S k 3)) (by omega) (by first | assumption | exact ⟨by omega, by omega⟩) (by first | assumption | exact ⟨by omega, by omega⟩)) ?_
        refine az_to 0 (pc2 := 33) (lv2 := [some (az_r 34), some (az_i (zN1 S k)), some (az_i (((k : Nat) : Int)))]) (st2 := [az_i ((if (zN1 S k) < (zT S k 3) then (zN1 S k) else (zT S k 3)))]) (s2 := s) rfl ?_
        refine az_to 4 (pc2 := 5) (lv2 := [some (az_r 34), some (az_i ((if (zN1 S k) < (zT S k 3) then (zN1 S k) else (zT S k 3)))), some (az_i ((((k : Nat) : Int) + 1)))]) (st2 := []) (s2 := s) rfl ?_
        have e9 : (if (zN1 S k) < (zT S k 3) then (zN1 S k) else (zT S k 3)) = zN1 S (k + 1) := by
          show _ = zfo (k + 1) _ _
          show _ = (if S 3 < zT S k 3 then (if zN1 S k < zT S k 3 then zN1 S k else zT S k 3) else zN1 S k)
          first | (rw [if_pos (c := S 3 < zT S k 3) (by assumption)]) | (rw [if_neg (c := S 3 < zT S k 3) (by assumption)])
        rw [e9]
        exact ih _ (by omega) (k + 1) rfl (by omega)
set_option maxRecDepth 100000 in
set_option maxHeartbeats 800000 in
theorem zs_X10_next_L46 {d : Nat} {s : az_S} (hd : 4 ≤ d) {S : zR} {h : Nat} (hS : s 35 = S) (hI : zInv S h) (hh : h ≤ 10000)   : ∀ (mq : Nat) (k : Nat), mq = zn S 0 - k → (k ≤ zn S 0) → az_R d am_m_X10_next 46 [some (az_r 34), some (az_i (zN2 S k)), some (az_i (((k : Nat) : Int)))] [] (s) (zmq s (zq_next S )) := by
  intro mq
  induction mq using Nat.strongRecOn with
  | _ mq ih =>
    intro k hm g0
    have hz := zI_h hI hh
    have hs0 : s 35 0 = ((zn S 0 : Nat) : Int) := by rw [hS, hz.2.1.1]
    have hs1 : s 35 1 = ((zn S 1 : Nat) : Int) := by rw [hS, hz.2.1.2.1]
    have hs2 : s 35 2 = ((zn S 2 : Nat) : Int) := by rw [hS, hz.2.1.2.2]
    have hs3 : s 35 3 = S 3 := by rw [hS]
    have hs5 : s 35 5 = S 5 := by rw [hS]
    have hn2 := zN2_r hI hh (k := k) (by omega)
    refine az_to 4 (pc2 := 52) (lv2 := [some (az_r 34), some (az_i (zN2 S k)), some (az_i (((k : Nat) : Int)))]) (st2 := [az_i (0), az_r 35, az_i (((k : Nat) : Int))]) (s2 := s) rfl ?_
    refine az_ld_i 53 rfl rfl (by constructor <;> omega) ⟨by decide, rfl⟩ ?_
    refine az_to 0 (pc2 := 53) (lv2 := [some (az_r 34), some (az_i (zN2 S k)), some (az_i (((k : Nat) : Int)))]) (st2 := [az_i (s 35 0), az_i (((k : Nat) : Int))]) (s2 := s) rfl ?_
    refine az_to 0 (pc2 := 53) (lv2 := [some (az_r 34), some (az_i (zN2 S k)), some (az_i (((k : Nat) : Int)))]) (st2 := [az_i (((zn S 0 : Nat) : Int)), az_i (((k : Nat) : Int))]) (s2 := s) (by rw [show s 35 0 = ((zn S 0 : Nat) : Int) from hs0]; rfl) ?_
    refine az_if2 85 56 rfl (by decide) (by first | assumption | exact ⟨by omega, by omega⟩) (by first | assumption | exact ⟨by omega, by omega⟩) (fun h3 => ?_) (fun h3 => ?_)
    · have h3 : ((zn S 0 : Nat) : Int) ≤ ((k : Nat) : Int) := h3
      refine az_to 3 (pc2 := 89) (lv2 := [some (az_r 34), some (az_i (zN2 S k)), some (az_i (((k : Nat) : Int)))]) (st2 := [az_i (99980001), az_i (zN2 S k), az_r 34]) (s2 := s) rfl ?_
      refine az_if2 96 92 rfl (by decide) (by first | assumption | exact ⟨by omega, by omega⟩) ⟨by decide, by decide⟩ (fun h4 => ?_) (fun h4 => ?_)
      · have h4 : ¬ zN2 S k = 99980001 := h4
        refine az_to 2 (pc2 := 98) (lv2 := [some (az_r 34), some (az_i (zN2 S k)), some (az_i (((k : Nat) : Int)))]) (st2 := [az_i (1), az_i (0), az_r 34]) (s2 := s) rfl ?_
        refine az_clv (v := some (az_i (0))) (t := am_up s 34 6 (0)) (m2 := am_m_X10_isThrown) (as := [az_r 34, az_i (0), az_i (1)]) (rest := []) 101 rfl rfl ⟨rfl, rfl⟩ (by omega) (zs_X10_isThrown_f (s := s) (v := 1) (by omega) ) ?_
        refine az_to 0 (pc2 := 101) (lv2 := [some (az_r 34), some (az_i (zN2 S k)), some (az_i (((k : Nat) : Int)))]) (st2 := [az_i (0)]) (s2 := am_up s 34 6 (0)) rfl ?_
        refine az_ifc 108 104 rfl (by decide) ⟨by decide, by decide⟩ (fun _ => ?_) (fun h => absurd (show az_cnd _ _ _ by unfold az_cnd; decide) h)
        refine az_to 1 (pc2 := 109) (lv2 := [some (az_r 34), some (az_i (zN2 S k)), some (az_i (((k : Nat) : Int)))]) (st2 := [az_i (zN2 S k)]) (s2 := am_up s 34 6 (0)) rfl ?_
        refine az_retI rfl rfl ?_
        obtain rfl : k = zn S 0 := by omega
        have hze : zne S = zne2 S (zn S 0) := rfl
        have e : zq_next S = (0, zN2 S (zn S 0)) := by unfold zq_next; rw [if_neg (by omega), hze, show zne2 S (zn S 0) = zN2 S (zn S 0) from by omega]
        rw [e]
        exact ⟨rfl, rfl, fun j hj => by simp [am_up, hj], fun i h1 h2 => by funext j; simp [am_up, h1]⟩
      · have h4 : zN2 S k = 99980001 := Decidable.not_not.mp h4
        refine az_to 3 (pc2 := 98) (lv2 := [some (az_r 34), some (az_i (zN2 S k)), some (az_i (((k : Nat) : Int)))]) (st2 := [az_i (1), az_i (1), az_r 34]) (s2 := s) rfl ?_
        refine az_clv (v := some (az_i (1))) (t := am_up s 34 6 (1)) (m2 := am_m_X10_isThrown) (as := [az_r 34, az_i (1), az_i (1)]) (rest := []) 101 rfl rfl ⟨rfl, rfl⟩ (by omega) (zs_X10_isThrown_t (s := s) (v := 1) (by omega) ) ?_
        refine az_to 0 (pc2 := 101) (lv2 := [some (az_r 34), some (az_i (zN2 S k)), some (az_i (((k : Nat) : Int)))]) (st2 := [az_i (1)]) (s2 := am_up s 34 6 (1)) rfl ?_
        refine az_ifc 108 104 rfl (by decide) ⟨by decide, by decide⟩ (fun h => absurd h (by unfold az_cnd; decide)) (fun _ => ?_)
        refine az_to 2 (pc2 := 109) (lv2 := [some (az_r 34), some (az_i (zN2 S k)), some (az_i (((k : Nat) : Int)))]) (st2 := [az_i (0)]) (s2 := am_up s 34 6 (1)) rfl ?_
        refine az_retI rfl rfl ?_
        obtain rfl : k = zn S 0 := by omega
        have hze : zne S = zne2 S (zn S 0) := rfl
        have e : zq_next S = (1, 0) := by unfold zq_next; rw [if_pos (by omega)]
        rw [e]
        exact ⟨rfl, rfl, fun j hj => by simp [am_up, hj], fun i h1 h2 => by funext j; simp [am_up, h1]⟩
    · have h3 : ¬ (((zn S 0 : Nat) : Int) ≤ ((k : Nat) : Int)) := h3
      have hzb := zI_b hI hh (b := k) (by omega)
      refine az_to 2 (pc2 := 58) (lv2 := [some (az_r 34), some (az_i (zN2 S k)), some (az_i (((k : Nat) : Int)))]) (st2 := [az_i (((k : Nat) : Int)), az_r 34]) (s2 := s) rfl ?_
      refine az_clv (v := some (az_i (az_b (S 3 < zB S k 4)))) (t := s) (m2 := am_m_X10_isInFog) (as := [az_r 34, az_i (((k : Nat) : Int))]) (rest := []) 61 rfl rfl ⟨rfl, rfl⟩ (by omega) (zs_X10_isInFog (s := s) (b := k) (by omega) hS hI hh (by omega)) ?_
      refine az_to 0 (pc2 := 61) (lv2 := [some (az_r 34), some (az_i (zN2 S k)), some (az_i (((k : Nat) : Int)))]) (st2 := [az_i (az_b (S 3 < zB S k 4))]) (s2 := s) rfl ?_
      refine az_ifbe 77 64 rfl (by decide) (fun h5 => ?_) (fun h5 => ?_)
      · have h5 : ¬ (S 3 < zB S k 4) := h5
        refine az_to 4 (pc2 := 46) (lv2 := [some (az_r 34), some (az_i (zN2 S k)), some (az_i ((((k : Nat) : Int) + 1)))]) (st2 := []) (s2 := s) rfl ?_
        have e9 : zN2 S k = zN2 S (k + 1) := by
          show _ = zfo (k + 1) _ _
          show _ = (if S 3 < zB S k 4 then (if zN2 S k < zB S k 4 then zN2 S k else zB S k 4) else zN2 S k)
          first | (rw [if_pos (c := S 3 < zB S k 4) (by assumption)]) | (rw [if_neg (c := S 3 < zB S k 4) (by assumption)])
        rw [e9]
        exact ih _ (by omega) (k + 1) rfl (by omega)
      · have h5 : S 3 < zB S k 4 := h5
        refine az_to 4 (pc2 := 68) (lv2 := [some (az_r 34), some (az_i (zN2 S k)), some (az_i (((k : Nat) : Int)))]) (st2 := [az_i (4), az_i (((k : Nat) : Int)), az_r 34, az_i (zN2 S k)]) (s2 := s) rfl ?_
        refine az_clv (v := some (az_i (zB S k 4))) (t := s) (m2 := am_m_X10_of) (as := [az_r 34, az_i (((k : Nat) : Int)), az_i (4)]) (rest := [az_i (zN2 S k)]) 71 rfl rfl ⟨rfl, rfl⟩ (by omega) (zs_X10_of (s := s) (b := k) (k := 4) (by omega) hS (by omega) (by omega)) ?_
        refine az_to 0 (pc2 := 71) (lv2 := [some (az_r 34), some (az_i (zN2 S k)), some (az_i (((k : Nat) : Int)))]) (st2 := [az_i (zB S k 4), az_i (zN2 S k)]) (s2 := s) rfl ?_
        refine az_clv (v := some (az_i ((if (zN2 S k) < (zB S k 4) then (zN2 S k) else (zB S k 4))))) (t := s) (m2 := am_m_X10_lesser) (as := [az_i (zN2 S k), az_i (zB S k 4)]) (rest := []) 74 rfl rfl ⟨rfl, rfl⟩ (by omega) (zs_X10_lesser (s := s) (x := (zN2 S k)) (y := (zB S k 4)) (by omega) (by first | assumption | exact ⟨by omega, by omega⟩) (by first | assumption | exact ⟨by omega, by omega⟩)) ?_
        refine az_to 0 (pc2 := 74) (lv2 := [some (az_r 34), some (az_i (zN2 S k)), some (az_i (((k : Nat) : Int)))]) (st2 := [az_i ((if (zN2 S k) < (zB S k 4) then (zN2 S k) else (zB S k 4)))]) (s2 := s) rfl ?_
        refine az_to 4 (pc2 := 46) (lv2 := [some (az_r 34), some (az_i ((if (zN2 S k) < (zB S k 4) then (zN2 S k) else (zB S k 4)))), some (az_i ((((k : Nat) : Int) + 1)))]) (st2 := []) (s2 := s) rfl ?_
        have e9 : (if (zN2 S k) < (zB S k 4) then (zN2 S k) else (zB S k 4)) = zN2 S (k + 1) := by
          show _ = zfo (k + 1) _ _
          show _ = (if S 3 < zB S k 4 then (if zN2 S k < zB S k 4 then zN2 S k else zB S k 4) else zN2 S k)
          first | (rw [if_pos (c := S 3 < zB S k 4) (by assumption)]) | (rw [if_neg (c := S 3 < zB S k 4) (by assumption)])
        rw [e9]
        exact ih _ (by omega) (k + 1) rfl (by omega)
set_option maxRecDepth 100000 in
set_option maxHeartbeats 800000 in
theorem zs_X10_next {d : Nat} {s : az_S} (hd : 4 ≤ d) {S : zR} {h : Nat} (hS : s 35 = S) (hI : zInv S h) (hh : h ≤ 10000)   : az_R d am_m_X10_next 0 (az_ini (am_mL am_m_X10_next) [az_r 34]) [] (s) (zmq s (zq_next S )) := by
  have hz := zI_h hI hh
  have hs0 : s 35 0 = ((zn S 0 : Nat) : Int) := by rw [hS, hz.2.1.1]
  have hs1 : s 35 1 = ((zn S 1 : Nat) : Int) := by rw [hS, hz.2.1.2.1]
  have hs2 : s 35 2 = ((zn S 2 : Nat) : Int) := by rw [hS, hz.2.1.2.2]
  have hs3 : s 35 3 = S 3 := by rw [hS]
  have hs5 : s 35 5 = S 5 := by rw [hS]
  refine az_to 0 (pc2 := 0) (lv2 := [some (az_r 34), none, none]) (st2 := []) (s2 := s) rfl ?_
  refine az_to 4 (pc2 := 5) (lv2 := [some (az_r 34), some (az_i (99980001)), some (az_i (0))]) (st2 := []) (s2 := s) rfl ?_
  refine zs_X10_next_L5 (by omega) hS hI hh ?_ _ 0 rfl (by omega)
  refine az_to 2 (pc2 := 46) (lv2 := [some (az_r 34), some (az_i (zN1 S (zn S 1))), some (az_i (0))]) (st2 := []) (s2 := s) rfl ?_
  exact zs_X10_next_L46 (by omega) hS hI hh _ 0 rfl (by omega)
set_option maxRecDepth 100000 in
set_option maxHeartbeats 800000 in
theorem zs_X10_type_y {d : Nat} {s : az_S} (hd : 2 ≤ d) {n : Nat} (hl : s 34 17 = ((n : Nat) : Int)) {ch : Int} (hn : n < 60) : az_R d am_m_X10_type 0 (az_ini (am_mL am_m_X10_type) [az_r 34, az_i (ch)]) [] (s) (fun o t => o = .inl (some (az_i ((n + 1 : Nat) : Int))) ∧ t = am_up (am_up (am_up s 34 6 (0)) 41 n (ch)) 34 17 (((n : Nat) : Int) + 1)) := by
  refine az_to 0 (pc2 := 0) (lv2 := [some (az_r 34), some (az_i (ch))]) (st2 := []) (s2 := s) rfl ?_
  refine az_to 3 (pc2 := 5) (lv2 := [some (az_r 34), some (az_i (ch))]) (st2 := [az_i (s 34 17), az_r 34]) (s2 := s) rfl ?_
  refine az_to 0 (pc2 := 5) (lv2 := [some (az_r 34), some (az_i (ch))]) (st2 := [az_i (((n : Nat) : Int)), az_r 34]) (s2 := s) (by rw [show s 34 17 = ((n : Nat) : Int) from hl]; rfl) ?_
  refine az_to 1 (pc2 := 7) (lv2 := [some (az_r 34), some (az_i (ch))]) (st2 := [az_i (60), az_i (((n : Nat) : Int)), az_r 34]) (s2 := s) rfl ?_
  refine az_if2 14 10 rfl (by decide) (by first | assumption | exact ⟨by omega, by omega⟩) ⟨by decide, by decide⟩ (fun h1 => ?_) (fun h1 => ?_)
  · have h1 : ¬ ((n : Nat) : Int) = 60 := h1
    refine az_to 2 (pc2 := 16) (lv2 := [some (az_r 34), some (az_i (ch))]) (st2 := [az_i (1), az_i (0), az_r 34]) (s2 := s) rfl ?_
    refine az_clv (v := some (az_i (0))) (t := am_up s 34 6 (0)) (m2 := am_m_X10_isThrown) (as := [az_r 34, az_i (0), az_i (1)]) (rest := []) 19 rfl rfl ⟨rfl, rfl⟩ (by omega) (zs_X10_isThrown_f (s := s) (v := 1) (by omega) ) ?_
    refine az_to 0 (pc2 := 19) (lv2 := [some (az_r 34), some (az_i (ch))]) (st2 := [az_i (0)]) (s2 := am_up s 34 6 (0)) rfl ?_
    refine az_ifc 24 22 rfl (by decide) ⟨by decide, by decide⟩ (fun _ => ?_) (fun h => absurd (show az_cnd _ _ _ by unfold az_cnd; decide) h)
    refine az_to 4 (pc2 := 32) (lv2 := [some (az_r 34), some (az_i (ch))]) (st2 := [az_i ((am_up s 34 6 (0)) 34 17), az_r 41]) (s2 := am_up s 34 6 (0)) rfl ?_
    refine az_to 0 (pc2 := 32) (lv2 := [some (az_r 34), some (az_i (ch))]) (st2 := [az_i (((n : Nat) : Int)), az_r 41]) (s2 := am_up s 34 6 (0)) (by rw [show (am_up s 34 6 (0)) 34 17 = ((n : Nat) : Int) from hl]; rfl) ?_
    refine az_to 1 (pc2 := 33) (lv2 := [some (az_r 34), some (az_i (ch))]) (st2 := [az_i (ch), az_i (((n : Nat) : Int)), az_r 41]) (s2 := am_up s 34 6 (0)) rfl ?_
    refine az_st_i 34 rfl rfl (by constructor <;> omega) ⟨by decide, rfl⟩ ?_
    refine az_to 3 (pc2 := 39) (lv2 := [some (az_r 34), some (az_i (ch))]) (st2 := [az_i ((am_up (am_up s 34 6 (0)) 41 n (ch)) 34 17), az_r 34]) (s2 := am_up (am_up s 34 6 (0)) 41 n (ch)) rfl ?_
    refine az_to 0 (pc2 := 39) (lv2 := [some (az_r 34), some (az_i (ch))]) (st2 := [az_i (((n : Nat) : Int)), az_r 34]) (s2 := am_up (am_up s 34 6 (0)) 41 n (ch)) (by rw [show (am_up (am_up s 34 6 (0)) 41 n (ch)) 34 17 = ((n : Nat) : Int) from hl]; rfl) ?_
    refine az_to 5 (pc2 := 48) (lv2 := [some (az_r 34), some (az_i (ch))]) (st2 := [az_i ((am_up (am_up (am_up s 34 6 (0)) 41 n (ch)) 34 17 ((((n : Nat) : Int) + 1))) 34 17)]) (s2 := am_up (am_up (am_up s 34 6 (0)) 41 n (ch)) 34 17 ((((n : Nat) : Int) + 1))) rfl ?_
    refine az_to 0 (pc2 := 48) (lv2 := [some (az_r 34), some (az_i (ch))]) (st2 := [az_i ((((n + 1) : Nat) : Int))]) (s2 := am_up (am_up (am_up s 34 6 (0)) 41 n (ch)) 34 17 ((((n : Nat) : Int) + 1))) (by rw [show (am_up (am_up (am_up s 34 6 (0)) 41 n (ch)) 34 17 ((((n : Nat) : Int) + 1))) 34 17 = ((n + 1 : Nat) : Int) from rfl]; rfl) ?_
    refine az_retI rfl rfl ?_
    exact ⟨rfl, rfl⟩
  · have h1 : ((n : Nat) : Int) = 60 := Decidable.not_not.mp h1
    exact absurd h1 (by omega)
set_option maxRecDepth 100000 in
set_option maxHeartbeats 800000 in
theorem zs_X10_type_n {d : Nat} {s : az_S} (hd : 2 ≤ d) {n : Nat} (hl : s 34 17 = ((n : Nat) : Int)) {ch : Int} (hn : n = 60) : az_R d am_m_X10_type 0 (az_ini (am_mL am_m_X10_type) [az_r 34, az_i (ch)]) [] (s) (fun o t => o = .inl (some (az_i 0)) ∧ t = am_up s 34 6 (1)) := by
  refine az_to 0 (pc2 := 0) (lv2 := [some (az_r 34), some (az_i (ch))]) (st2 := []) (s2 := s) rfl ?_
  refine az_to 3 (pc2 := 5) (lv2 := [some (az_r 34), some (az_i (ch))]) (st2 := [az_i (s 34 17), az_r 34]) (s2 := s) rfl ?_
  refine az_to 0 (pc2 := 5) (lv2 := [some (az_r 34), some (az_i (ch))]) (st2 := [az_i (((n : Nat) : Int)), az_r 34]) (s2 := s) (by rw [show s 34 17 = ((n : Nat) : Int) from hl]; rfl) ?_
  refine az_to 1 (pc2 := 7) (lv2 := [some (az_r 34), some (az_i (ch))]) (st2 := [az_i (60), az_i (((n : Nat) : Int)), az_r 34]) (s2 := s) rfl ?_
  refine az_if2 14 10 rfl (by decide) (by first | assumption | exact ⟨by omega, by omega⟩) ⟨by decide, by decide⟩ (fun h1 => ?_) (fun h1 => ?_)
  · have h1 : ¬ ((n : Nat) : Int) = 60 := h1
    exact absurd h1 (by omega)
  · have h1 : ((n : Nat) : Int) = 60 := Decidable.not_not.mp h1
    refine az_to 3 (pc2 := 16) (lv2 := [some (az_r 34), some (az_i (ch))]) (st2 := [az_i (1), az_i (1), az_r 34]) (s2 := s) rfl ?_
    refine az_clv (v := some (az_i (1))) (t := am_up s 34 6 (1)) (m2 := am_m_X10_isThrown) (as := [az_r 34, az_i (1), az_i (1)]) (rest := []) 19 rfl rfl ⟨rfl, rfl⟩ (by omega) (zs_X10_isThrown_t (s := s) (v := 1) (by omega) ) ?_
    refine az_to 0 (pc2 := 19) (lv2 := [some (az_r 34), some (az_i (ch))]) (st2 := [az_i (1)]) (s2 := am_up s 34 6 (1)) rfl ?_
    refine az_ifc 24 22 rfl (by decide) ⟨by decide, by decide⟩ (fun h => absurd h (by unfold az_cnd; decide)) (fun _ => ?_)
    refine az_to 1 (pc2 := 23) (lv2 := [some (az_r 34), some (az_i (ch))]) (st2 := [az_i (0)]) (s2 := am_up s 34 6 (1)) rfl ?_
    refine az_retI rfl rfl ?_
    exact ⟨rfl, rfl⟩
set_option maxRecDepth 100000 in
set_option maxHeartbeats 800000 in
theorem zs_X10_errorPosition {d : Nat} {s : az_S} (hd : 2 ≤ d) (he : az_in (s 34 11)) : az_R d am_m_X10_errorPosition 0 (az_ini (am_mL am_m_X10_errorPosition) [az_r 34]) [] (s) (zmq s (if s 34 11 < 0 then (1, 0) else (0, s 34 11))) := by
  refine az_to 0 (pc2 := 0) (lv2 := [some (az_r 34)]) (st2 := []) (s2 := s) rfl ?_
  refine az_to 3 (pc2 := 5) (lv2 := [some (az_r 34)]) (st2 := [az_i (s 34 11), az_r 34]) (s2 := s) rfl ?_
  refine az_ifc 12 8 rfl (by decide) (by first | assumption | exact ⟨by omega, by omega⟩) (fun h1 => ?_) (fun h1 => ?_)
  · have h1 : 0 ≤ s 34 11 := h1
    refine az_to 2 (pc2 := 14) (lv2 := [some (az_r 34)]) (st2 := [az_i (1), az_i (0), az_r 34]) (s2 := s) rfl ?_
    refine az_clv (v := some (az_i (0))) (t := am_up s 34 6 (0)) (m2 := am_m_X10_isThrown) (as := [az_r 34, az_i (0), az_i (1)]) (rest := []) 17 rfl rfl ⟨rfl, rfl⟩ (by omega) (zs_X10_isThrown_f (s := s) (v := 1) (by omega) ) ?_
    refine az_to 0 (pc2 := 17) (lv2 := [some (az_r 34)]) (st2 := [az_i (0)]) (s2 := am_up s 34 6 (0)) rfl ?_
    refine az_ifc 24 20 rfl (by decide) ⟨by decide, by decide⟩ (fun _ => ?_) (fun h => absurd (show az_cnd _ _ _ by unfold az_cnd; decide) h)
    refine az_to 2 (pc2 := 28) (lv2 := [some (az_r 34)]) (st2 := [az_i ((am_up s 34 6 (0)) 34 11)]) (s2 := am_up s 34 6 (0)) rfl ?_
    refine az_retI rfl rfl ?_
    rw [if_neg (by omega)]
    exact ⟨rfl, rfl, fun j hj => by simp [am_up, hj], fun i h1 h2 => by funext j; simp [am_up, h1]⟩
  · have h1 : ¬ (0 ≤ s 34 11) := h1
    refine az_to 3 (pc2 := 14) (lv2 := [some (az_r 34)]) (st2 := [az_i (1), az_i (1), az_r 34]) (s2 := s) rfl ?_
    refine az_clv (v := some (az_i (1))) (t := am_up s 34 6 (1)) (m2 := am_m_X10_isThrown) (as := [az_r 34, az_i (1), az_i (1)]) (rest := []) 17 rfl rfl ⟨rfl, rfl⟩ (by omega) (zs_X10_isThrown_t (s := s) (v := 1) (by omega) ) ?_
    refine az_to 0 (pc2 := 17) (lv2 := [some (az_r 34)]) (st2 := [az_i (1)]) (s2 := am_up s 34 6 (1)) rfl ?_
    refine az_ifc 24 20 rfl (by decide) ⟨by decide, by decide⟩ (fun h => absurd h (by unfold az_cnd; decide)) (fun _ => ?_)
    refine az_to 2 (pc2 := 28) (lv2 := [some (az_r 34)]) (st2 := [az_i (0)]) (s2 := am_up s 34 6 (1)) rfl ?_
    refine az_retI rfl rfl ?_
    rw [if_pos (by omega)]
    exact ⟨rfl, rfl, fun j hj => by simp [am_up, hj], fun i h1 h2 => by funext j; simp [am_up, h1]⟩
set_option maxRecDepth 100000 in
set_option maxHeartbeats 800000 in
theorem zs_X10_refusal_11 {d : Nat} {s : az_S} (hd : 2 ≤ d) (hq0 : az_in (s 34 7)) (hq2 : az_in (s 34 9)) : az_R d am_m_X10_refusal 0 (az_ini (am_mL am_m_X10_refusal) [az_r 34, az_i (1), az_i (1)]) [] (s) (zmq s (zq_rf (s 34 9) (s 34 10) True)) := by
  refine az_to 0 (pc2 := 0) (lv2 := [some (az_r 34), some (az_i (1)), some (az_i (1))]) (st2 := []) (s2 := s) rfl ?_
  refine az_to 2 (pc2 := 2) (lv2 := [some (az_r 34), some (az_i (1)), some (az_i (1))]) (st2 := [az_i (1), az_r 34]) (s2 := s) rfl ?_
  refine az_ifc 20 5 rfl (by decide) ⟨by decide, by decide⟩ (fun h => absurd h (by unfold az_cnd; decide)) (fun _ => ?_)
  refine az_to 2 (pc2 := 9) (lv2 := [some (az_r 34), some (az_i (1)), some (az_i (1))]) (st2 := [az_i (s 34 9), az_r 34]) (s2 := s) rfl ?_
  refine az_ifc 16 12 rfl (by decide) (by first | assumption | exact ⟨by omega, by omega⟩) (fun h1 => ?_) (fun h1 => ?_)
  · have h1 : ¬ s 34 9 = 0 := h1
    refine az_to 3 (pc2 := 33) (lv2 := [some (az_r 34), some (az_i (1)), some (az_i (1))]) (st2 := [az_i (1), az_i (0), az_r 34]) (s2 := s) rfl ?_
    refine az_clv (v := some (az_i (0))) (t := am_up s 34 6 (0)) (m2 := am_m_X10_isThrown) (as := [az_r 34, az_i (0), az_i (1)]) (rest := []) 36 rfl rfl ⟨rfl, rfl⟩ (by omega) (zs_X10_isThrown_f (s := s) (v := 1) (by omega) ) ?_
    refine az_to 0 (pc2 := 36) (lv2 := [some (az_r 34), some (az_i (1)), some (az_i (1))]) (st2 := [az_i (0)]) (s2 := am_up s 34 6 (0)) rfl ?_
    refine az_ifc 41 39 rfl (by decide) ⟨by decide, by decide⟩ (fun _ => ?_) (fun h => absurd (show az_cnd _ _ _ by unfold az_cnd; decide) h)
    refine az_to 1 (pc2 := 42) (lv2 := [some (az_r 34), some (az_i (1)), some (az_i (1))]) (st2 := [az_i (1)]) (s2 := am_up s 34 6 (0)) rfl ?_
    refine az_ifc 63 45 rfl (by decide) ⟨by decide, by decide⟩ (fun h => absurd h (by unfold az_cnd; decide)) (fun _ => ?_)
    refine az_to 1 (pc2 := 46) (lv2 := [some (az_r 34), some (az_i (1)), some (az_i (1))]) (st2 := [az_i (1)]) (s2 := am_up s 34 6 (0)) rfl ?_
    refine az_ifc 56 49 rfl (by decide) ⟨by decide, by decide⟩ (fun h => absurd h (by unfold az_cnd; decide)) (fun _ => ?_)
    refine az_to 3 (pc2 := 78) (lv2 := [some (az_r 34), some (az_i (1)), some (az_i (1))]) (st2 := [az_i ((am_up s 34 6 (0)) 34 10)]) (s2 := am_up s 34 6 (0)) rfl ?_
    refine az_retI rfl rfl ?_
    have e : zq_rf (s 34 9) (s 34 10) True = (0, s 34 10) := by unfold zq_rf; rw [if_neg (by assumption)]; rfl
    rw [e]
    exact ⟨rfl, rfl, fun j hj => by simp [am_up, hj], fun i h1 h2 => by funext j; simp [am_up, h1]⟩
  · have h1 : s 34 9 = 0 := Decidable.not_not.mp h1
    refine az_to 3 (pc2 := 33) (lv2 := [some (az_r 34), some (az_i (1)), some (az_i (1))]) (st2 := [az_i (1), az_i (1), az_r 34]) (s2 := s) rfl ?_
    refine az_clv (v := some (az_i (1))) (t := am_up s 34 6 (1)) (m2 := am_m_X10_isThrown) (as := [az_r 34, az_i (1), az_i (1)]) (rest := []) 36 rfl rfl ⟨rfl, rfl⟩ (by omega) (zs_X10_isThrown_t (s := s) (v := 1) (by omega) ) ?_
    refine az_to 0 (pc2 := 36) (lv2 := [some (az_r 34), some (az_i (1)), some (az_i (1))]) (st2 := [az_i (1)]) (s2 := am_up s 34 6 (1)) rfl ?_
    refine az_ifc 41 39 rfl (by decide) ⟨by decide, by decide⟩ (fun h => absurd h (by unfold az_cnd; decide)) (fun _ => ?_)
    refine az_to 1 (pc2 := 40) (lv2 := [some (az_r 34), some (az_i (1)), some (az_i (1))]) (st2 := [az_i (0)]) (s2 := am_up s 34 6 (1)) rfl ?_
    refine az_retI rfl rfl ?_
    have e : zq_rf (s 34 9) (s 34 10) True = (1, 0) := by unfold zq_rf; rw [if_pos (by assumption)]
    rw [e]
    exact ⟨rfl, rfl, fun j hj => by simp [am_up, hj], fun i h1 h2 => by funext j; simp [am_up, h1]⟩
set_option maxRecDepth 100000 in
set_option maxHeartbeats 800000 in
theorem zs_X10_refusal_10 {d : Nat} {s : az_S} (hd : 2 ≤ d) (hq0 : az_in (s 34 7)) (hq2 : az_in (s 34 9)) : az_R d am_m_X10_refusal 0 (az_ini (am_mL am_m_X10_refusal) [az_r 34, az_i (1), az_i (0)]) [] (s) (zmq s (zq_rf (s 34 9) (s 34 10) False)) := by
  refine az_to 0 (pc2 := 0) (lv2 := [some (az_r 34), some (az_i (1)), some (az_i (0))]) (st2 := []) (s2 := s) rfl ?_
  refine az_to 2 (pc2 := 2) (lv2 := [some (az_r 34), some (az_i (1)), some (az_i (0))]) (st2 := [az_i (1), az_r 34]) (s2 := s) rfl ?_
  refine az_ifc 20 5 rfl (by decide) ⟨by decide, by decide⟩ (fun h => absurd h (by unfold az_cnd; decide)) (fun _ => ?_)
  refine az_to 2 (pc2 := 9) (lv2 := [some (az_r 34), some (az_i (1)), some (az_i (0))]) (st2 := [az_i (s 34 9), az_r 34]) (s2 := s) rfl ?_
  refine az_ifc 16 12 rfl (by decide) (by first | assumption | exact ⟨by omega, by omega⟩) (fun h1 => ?_) (fun h1 => ?_)
  · have h1 : ¬ s 34 9 = 0 := h1
    refine az_to 3 (pc2 := 33) (lv2 := [some (az_r 34), some (az_i (1)), some (az_i (0))]) (st2 := [az_i (1), az_i (0), az_r 34]) (s2 := s) rfl ?_
    refine az_clv (v := some (az_i (0))) (t := am_up s 34 6 (0)) (m2 := am_m_X10_isThrown) (as := [az_r 34, az_i (0), az_i (1)]) (rest := []) 36 rfl rfl ⟨rfl, rfl⟩ (by omega) (zs_X10_isThrown_f (s := s) (v := 1) (by omega) ) ?_
    refine az_to 0 (pc2 := 36) (lv2 := [some (az_r 34), some (az_i (1)), some (az_i (0))]) (st2 := [az_i (0)]) (s2 := am_up s 34 6 (0)) rfl ?_
    refine az_ifc 41 39 rfl (by decide) ⟨by decide, by decide⟩ (fun _ => ?_) (fun h => absurd (show az_cnd _ _ _ by unfold az_cnd; decide) h)
    refine az_to 1 (pc2 := 42) (lv2 := [some (az_r 34), some (az_i (1)), some (az_i (0))]) (st2 := [az_i (1)]) (s2 := am_up s 34 6 (0)) rfl ?_
    refine az_ifc 63 45 rfl (by decide) ⟨by decide, by decide⟩ (fun h => absurd h (by unfold az_cnd; decide)) (fun _ => ?_)
    refine az_to 1 (pc2 := 46) (lv2 := [some (az_r 34), some (az_i (1)), some (az_i (0))]) (st2 := [az_i (0)]) (s2 := am_up s 34 6 (0)) rfl ?_
    refine az_ifc 56 49 rfl (by decide) ⟨by decide, by decide⟩ (fun _ => ?_) (fun h => absurd (show az_cnd _ _ _ by unfold az_cnd; decide) h)
    refine az_to 3 (pc2 := 78) (lv2 := [some (az_r 34), some (az_i (1)), some (az_i (0))]) (st2 := [az_i ((am_up s 34 6 (0)) 34 9)]) (s2 := am_up s 34 6 (0)) rfl ?_
    refine az_retI rfl rfl ?_
    have e : zq_rf (s 34 9) (s 34 10) False = (0, s 34 9) := by unfold zq_rf; rw [if_neg (by assumption)]; rfl
    rw [e]
    exact ⟨rfl, rfl, fun j hj => by simp [am_up, hj], fun i h1 h2 => by funext j; simp [am_up, h1]⟩
  · have h1 : s 34 9 = 0 := Decidable.not_not.mp h1
    refine az_to 3 (pc2 := 33) (lv2 := [some (az_r 34), some (az_i (1)), some (az_i (0))]) (st2 := [az_i (1), az_i (1), az_r 34]) (s2 := s) rfl ?_
    refine az_clv (v := some (az_i (1))) (t := am_up s 34 6 (1)) (m2 := am_m_X10_isThrown) (as := [az_r 34, az_i (1), az_i (1)]) (rest := []) 36 rfl rfl ⟨rfl, rfl⟩ (by omega) (zs_X10_isThrown_t (s := s) (v := 1) (by omega) ) ?_
    refine az_to 0 (pc2 := 36) (lv2 := [some (az_r 34), some (az_i (1)), some (az_i (0))]) (st2 := [az_i (1)]) (s2 := am_up s 34 6 (1)) rfl ?_
    refine az_ifc 41 39 rfl (by decide) ⟨by decide, by decide⟩ (fun h => absurd h (by unfold az_cnd; decide)) (fun _ => ?_)
    refine az_to 1 (pc2 := 40) (lv2 := [some (az_r 34), some (az_i (1)), some (az_i (0))]) (st2 := [az_i (0)]) (s2 := am_up s 34 6 (1)) rfl ?_
    refine az_retI rfl rfl ?_
    have e : zq_rf (s 34 9) (s 34 10) False = (1, 0) := by unfold zq_rf; rw [if_pos (by assumption)]
    rw [e]
    exact ⟨rfl, rfl, fun j hj => by simp [am_up, hj], fun i h1 h2 => by funext j; simp [am_up, h1]⟩
set_option maxRecDepth 100000 in
set_option maxHeartbeats 800000 in
theorem zs_X10_refusal_01 {d : Nat} {s : az_S} (hd : 2 ≤ d) (hq0 : az_in (s 34 7)) (hq2 : az_in (s 34 9)) : az_R d am_m_X10_refusal 0 (az_ini (am_mL am_m_X10_refusal) [az_r 34, az_i (0), az_i (1)]) [] (s) (zmq s (zq_rf (s 34 7) (s 34 8) True)) := by
  refine az_to 0 (pc2 := 0) (lv2 := [some (az_r 34), some (az_i (0)), some (az_i (1))]) (st2 := []) (s2 := s) rfl ?_
  refine az_to 2 (pc2 := 2) (lv2 := [some (az_r 34), some (az_i (0)), some (az_i (1))]) (st2 := [az_i (0), az_r 34]) (s2 := s) rfl ?_
  refine az_ifc 20 5 rfl (by decide) ⟨by decide, by decide⟩ (fun _ => ?_) (fun h => absurd (show az_cnd _ _ _ by unfold az_cnd; decide) h)
  refine az_to 2 (pc2 := 24) (lv2 := [some (az_r 34), some (az_i (0)), some (az_i (1))]) (st2 := [az_i (s 34 7), az_r 34]) (s2 := s) rfl ?_
  refine az_ifc 31 27 rfl (by decide) (by first | assumption | exact ⟨by omega, by omega⟩) (fun h1 => ?_) (fun h1 => ?_)
  · have h1 : ¬ s 34 7 = 0 := h1
    refine az_to 2 (pc2 := 33) (lv2 := [some (az_r 34), some (az_i (0)), some (az_i (1))]) (st2 := [az_i (1), az_i (0), az_r 34]) (s2 := s) rfl ?_
    refine az_clv (v := some (az_i (0))) (t := am_up s 34 6 (0)) (m2 := am_m_X10_isThrown) (as := [az_r 34, az_i (0), az_i (1)]) (rest := []) 36 rfl rfl ⟨rfl, rfl⟩ (by omega) (zs_X10_isThrown_f (s := s) (v := 1) (by omega) ) ?_
    refine az_to 0 (pc2 := 36) (lv2 := [some (az_r 34), some (az_i (0)), some (az_i (1))]) (st2 := [az_i (0)]) (s2 := am_up s 34 6 (0)) rfl ?_
    refine az_ifc 41 39 rfl (by decide) ⟨by decide, by decide⟩ (fun _ => ?_) (fun h => absurd (show az_cnd _ _ _ by unfold az_cnd; decide) h)
    refine az_to 1 (pc2 := 42) (lv2 := [some (az_r 34), some (az_i (0)), some (az_i (1))]) (st2 := [az_i (0)]) (s2 := am_up s 34 6 (0)) rfl ?_
    refine az_ifc 63 45 rfl (by decide) ⟨by decide, by decide⟩ (fun _ => ?_) (fun h => absurd (show az_cnd _ _ _ by unfold az_cnd; decide) h)
    refine az_to 1 (pc2 := 64) (lv2 := [some (az_r 34), some (az_i (0)), some (az_i (1))]) (st2 := [az_i (1)]) (s2 := am_up s 34 6 (0)) rfl ?_
    refine az_ifc 74 67 rfl (by decide) ⟨by decide, by decide⟩ (fun h => absurd h (by unfold az_cnd; decide)) (fun _ => ?_)
    refine az_to 3 (pc2 := 78) (lv2 := [some (az_r 34), some (az_i (0)), some (az_i (1))]) (st2 := [az_i ((am_up s 34 6 (0)) 34 8)]) (s2 := am_up s 34 6 (0)) rfl ?_
    refine az_retI rfl rfl ?_
    have e : zq_rf (s 34 7) (s 34 8) True = (0, s 34 8) := by unfold zq_rf; rw [if_neg (by assumption)]; rfl
    rw [e]
    exact ⟨rfl, rfl, fun j hj => by simp [am_up, hj], fun i h1 h2 => by funext j; simp [am_up, h1]⟩
  · have h1 : s 34 7 = 0 := Decidable.not_not.mp h1
    refine az_to 3 (pc2 := 33) (lv2 := [some (az_r 34), some (az_i (0)), some (az_i (1))]) (st2 := [az_i (1), az_i (1), az_r 34]) (s2 := s) rfl ?_
    refine az_clv (v := some (az_i (1))) (t := am_up s 34 6 (1)) (m2 := am_m_X10_isThrown) (as := [az_r 34, az_i (1), az_i (1)]) (rest := []) 36 rfl rfl ⟨rfl, rfl⟩ (by omega) (zs_X10_isThrown_t (s := s) (v := 1) (by omega) ) ?_
    refine az_to 0 (pc2 := 36) (lv2 := [some (az_r 34), some (az_i (0)), some (az_i (1))]) (st2 := [az_i (1)]) (s2 := am_up s 34 6 (1)) rfl ?_
    refine az_ifc 41 39 rfl (by decide) ⟨by decide, by decide⟩ (fun h => absurd h (by unfold az_cnd; decide)) (fun _ => ?_)
    refine az_to 1 (pc2 := 40) (lv2 := [some (az_r 34), some (az_i (0)), some (az_i (1))]) (st2 := [az_i (0)]) (s2 := am_up s 34 6 (1)) rfl ?_
    refine az_retI rfl rfl ?_
    have e : zq_rf (s 34 7) (s 34 8) True = (1, 0) := by unfold zq_rf; rw [if_pos (by assumption)]
    rw [e]
    exact ⟨rfl, rfl, fun j hj => by simp [am_up, hj], fun i h1 h2 => by funext j; simp [am_up, h1]⟩
set_option maxRecDepth 100000 in
set_option maxHeartbeats 800000 in
theorem zs_X10_refusal_00 {d : Nat} {s : az_S} (hd : 2 ≤ d) (hq0 : az_in (s 34 7)) (hq2 : az_in (s 34 9)) : az_R d am_m_X10_refusal 0 (az_ini (am_mL am_m_X10_refusal) [az_r 34, az_i (0), az_i (0)]) [] (s) (zmq s (zq_rf (s 34 7) (s 34 8) False)) := by
  refine az_to 0 (pc2 := 0) (lv2 := [some (az_r 34), some (az_i (0)), some (az_i (0))]) (st2 := []) (s2 := s) rfl ?_
  refine az_to 2 (pc2 := 2) (lv2 := [some (az_r 34), some (az_i (0)), some (az_i (0))]) (st2 := [az_i (0), az_r 34]) (s2 := s) rfl ?_
  refine az_ifc 20 5 rfl (by decide) ⟨by decide, by decide⟩ (fun _ => ?_) (fun h => absurd (show az_cnd _ _ _ by unfold az_cnd; decide) h)
  refine az_to 2 (pc2 := 24) (lv2 := [some (az_r 34), some (az_i (0)), some (az_i (0))]) (st2 := [az_i (s 34 7), az_r 34]) (s2 := s) rfl ?_
  refine az_ifc 31 27 rfl (by decide) (by first | assumption | exact ⟨by omega, by omega⟩) (fun h1 => ?_) (fun h1 => ?_)
  · have h1 : ¬ s 34 7 = 0 := h1
    refine az_to 2 (pc2 := 33) (lv2 := [some (az_r 34), some (az_i (0)), some (az_i (0))]) (st2 := [az_i (1), az_i (0), az_r 34]) (s2 := s) rfl ?_
    refine az_clv (v := some (az_i (0))) (t := am_up s 34 6 (0)) (m2 := am_m_X10_isThrown) (as := [az_r 34, az_i (0), az_i (1)]) (rest := []) 36 rfl rfl ⟨rfl, rfl⟩ (by omega) (zs_X10_isThrown_f (s := s) (v := 1) (by omega) ) ?_
    refine az_to 0 (pc2 := 36) (lv2 := [some (az_r 34), some (az_i (0)), some (az_i (0))]) (st2 := [az_i (0)]) (s2 := am_up s 34 6 (0)) rfl ?_
    refine az_ifc 41 39 rfl (by decide) ⟨by decide, by decide⟩ (fun _ => ?_) (fun h => absurd (show az_cnd _ _ _ by unfold az_cnd; decide) h)
    refine az_to 1 (pc2 := 42) (lv2 := [some (az_r 34), some (az_i (0)), some (az_i (0))]) (st2 := [az_i (0)]) (s2 := am_up s 34 6 (0)) rfl ?_
    refine az_ifc 63 45 rfl (by decide) ⟨by decide, by decide⟩ (fun _ => ?_) (fun h => absurd (show az_cnd _ _ _ by unfold az_cnd; decide) h)
    refine az_to 1 (pc2 := 64) (lv2 := [some (az_r 34), some (az_i (0)), some (az_i (0))]) (st2 := [az_i (0)]) (s2 := am_up s 34 6 (0)) rfl ?_
    refine az_ifc 74 67 rfl (by decide) ⟨by decide, by decide⟩ (fun _ => ?_) (fun h => absurd (show az_cnd _ _ _ by unfold az_cnd; decide) h)
    refine az_to 2 (pc2 := 78) (lv2 := [some (az_r 34), some (az_i (0)), some (az_i (0))]) (st2 := [az_i ((am_up s 34 6 (0)) 34 7)]) (s2 := am_up s 34 6 (0)) rfl ?_
    refine az_retI rfl rfl ?_
    have e : zq_rf (s 34 7) (s 34 8) False = (0, s 34 7) := by unfold zq_rf; rw [if_neg (by assumption)]; rfl
    rw [e]
    exact ⟨rfl, rfl, fun j hj => by simp [am_up, hj], fun i h1 h2 => by funext j; simp [am_up, h1]⟩
  · have h1 : s 34 7 = 0 := Decidable.not_not.mp h1
    refine az_to 3 (pc2 := 33) (lv2 := [some (az_r 34), some (az_i (0)), some (az_i (0))]) (st2 := [az_i (1), az_i (1), az_r 34]) (s2 := s) rfl ?_
    refine az_clv (v := some (az_i (1))) (t := am_up s 34 6 (1)) (m2 := am_m_X10_isThrown) (as := [az_r 34, az_i (1), az_i (1)]) (rest := []) 36 rfl rfl ⟨rfl, rfl⟩ (by omega) (zs_X10_isThrown_t (s := s) (v := 1) (by omega) ) ?_
    refine az_to 0 (pc2 := 36) (lv2 := [some (az_r 34), some (az_i (0)), some (az_i (0))]) (st2 := [az_i (1)]) (s2 := am_up s 34 6 (1)) rfl ?_
    refine az_ifc 41 39 rfl (by decide) ⟨by decide, by decide⟩ (fun h => absurd h (by unfold az_cnd; decide)) (fun _ => ?_)
    refine az_to 1 (pc2 := 40) (lv2 := [some (az_r 34), some (az_i (0)), some (az_i (0))]) (st2 := [az_i (0)]) (s2 := am_up s 34 6 (1)) rfl ?_
    refine az_retI rfl rfl ?_
    have e : zq_rf (s 34 7) (s 34 8) False = (1, 0) := by unfold zq_rf; rw [if_pos (by assumption)]
    rw [e]
    exact ⟨rfl, rfl, fun j hj => by simp [am_up, hj], fun i h1 h2 => by funext j; simp [am_up, h1]⟩
set_option maxRecDepth 100000 in
set_option maxHeartbeats 800000 in
theorem zs_X10_written {d : Nat} {s : az_S} (hd : 3 ≤ d) {l : List Int} (hl : zLm s l) {zi : Int} (h_zi : az_in zi) (h16 : l.length ≤ 16) (hr : ∀ k, k < l.length → 0 ≤ s 40 k ∧ s 40 k < 65536) : az_R d am_m_X10_written 0 (az_ini (am_mL am_m_X10_written) [az_r 34, az_i (zi)]) [] (s) (zmq s (zq_wr l zi)) := by
  refine az_to 0 (pc2 := 0) (lv2 := [some (az_r 34), some (az_i (zi))]) (st2 := []) (s2 := s) rfl ?_
  refine az_to 5 (pc2 := 7) (lv2 := [some (az_r 34), some (az_i (zi))]) (st2 := [az_i (s 34 14), az_i (0), az_i (zi), az_r 34]) (s2 := s) rfl ?_
  refine az_to 0 (pc2 := 7) (lv2 := [some (az_r 34), some (az_i (zi))]) (st2 := [az_i (((l.length : Nat) : Int)), az_i (0), az_i (zi), az_r 34]) (s2 := s) (by rw [show s 34 14 = ((l.length : Nat) : Int) from hl.1]; rfl) ?_
  refine az_to 2 (pc2 := 9) (lv2 := [some (az_r 34), some (az_i (zi))]) (st2 := [az_i ((((l.length : Nat) : Int) - 1)), az_i (0), az_i (zi), az_r 34]) (s2 := s) rfl ?_
  refine az_clv (v := some (az_i (az_b (0 ≤ zi ∧ zi ≤ ((((l.length : Nat) : Int) - 1)))))) (t := s) (m2 := am_m_X10_isIn) (as := [az_i (zi), az_i (0), az_i ((((l.length : Nat) : Int) - 1))]) (rest := [az_r 34]) 12 rfl rfl ⟨rfl, rfl⟩ (by omega) (zs_X10_isIn (s := s) (z := zi) (lo := 0) (hi := ((((l.length : Nat) : Int) - 1))) (by omega) (by first | assumption | exact ⟨by omega, by omega⟩) ⟨by decide, by decide⟩ (by first | assumption | exact ⟨by omega, by omega⟩)) ?_
  refine az_to 0 (pc2 := 12) (lv2 := [some (az_r 34), some (az_i (zi))]) (st2 := [az_i (az_b (0 ≤ zi ∧ zi ≤ ((((l.length : Nat) : Int) - 1)))), az_r 34]) (s2 := s) rfl ?_
  refine az_ifbn 19 15 rfl (by decide) (fun h1 => ?_) (fun h1 => ?_)
  · have h1 : 0 ≤ zi ∧ zi ≤ ((((l.length : Nat) : Int) - 1)) := h1
    obtain ⟨k, rfl⟩ : ∃ n0 : Nat, zi = n0 := ⟨zi.toNat, by omega⟩
    have hrk := hr k (by omega)
    refine az_to 0 (pc2 := 19) (lv2 := [some (az_r 34), some (az_i (((k : Nat) : Int)))]) (st2 := [az_r 34]) (s2 := s) (rfl) ?_
    refine az_to 2 (pc2 := 21) (lv2 := [some (az_r 34), some (az_i (((k : Nat) : Int)))]) (st2 := [az_i (1), az_i (0), az_r 34]) (s2 := s) rfl ?_
    refine az_clv (v := some (az_i (0))) (t := am_up s 34 6 (0)) (m2 := am_m_X10_isThrown) (as := [az_r 34, az_i (0), az_i (1)]) (rest := []) 24 rfl rfl ⟨rfl, rfl⟩ (by omega) (zs_X10_isThrown_f (s := s) (v := 1) (by omega) ) ?_
    refine az_to 0 (pc2 := 24) (lv2 := [some (az_r 34), some (az_i (((k : Nat) : Int)))]) (st2 := [az_i (0)]) (s2 := am_up s 34 6 (0)) rfl ?_
    refine az_ifc 31 27 rfl (by decide) ⟨by decide, by decide⟩ (fun _ => ?_) (fun h => absurd (show az_cnd _ _ _ by unfold az_cnd; decide) h)
    refine az_to 3 (pc2 := 36) (lv2 := [some (az_r 34), some (az_i (((k : Nat) : Int)))]) (st2 := [az_i (((k : Nat) : Int)), az_r 40]) (s2 := am_up s 34 6 (0)) rfl ?_
    refine az_ld_i 37 rfl rfl (by constructor <;> omega) ⟨by decide, rfl⟩ ?_
    refine az_to 0 (pc2 := 37) (lv2 := [some (az_r 34), some (az_i (((k : Nat) : Int)))]) (st2 := [az_i ((am_up s 34 6 (0)) 40 k)]) (s2 := am_up s 34 6 (0)) rfl ?_
    refine az_to 1 (pc2 := 38) (lv2 := [some (az_r 34), some (az_i (((k : Nat) : Int)))]) (st2 := [az_i (((am_up s 34 6 (0)) 40 k % 65536))]) (s2 := am_up s 34 6 (0)) rfl ?_
    refine az_retC rfl rfl (by constructor <;> omega) ?_
    have e : zq_wr l ((k : Nat) : Int) = (0, s 40 k) := by
      unfold zq_wr
      rw [if_pos (by omega), Int.toNat_natCast, List.getD_eq_getElem?_getD, hl.2 k (by omega)]
      rfl
    rw [e]
    exact ⟨by rw [show am_up s 34 6 (0) 40 k % 65536 = s 40 k from (by show s 40 k % 65536 = _; omega)]; rfl, rfl, fun j hj => by simp [am_up, hj], fun i h1 h2 => by funext j; simp [am_up, h1]⟩
  · have h1 : ¬ (0 ≤ zi ∧ zi ≤ ((((l.length : Nat) : Int) - 1))) := h1
    refine az_to 3 (pc2 := 21) (lv2 := [some (az_r 34), some (az_i (zi))]) (st2 := [az_i (1), az_i (1), az_r 34]) (s2 := s) rfl ?_
    refine az_clv (v := some (az_i (1))) (t := am_up s 34 6 (1)) (m2 := am_m_X10_isThrown) (as := [az_r 34, az_i (1), az_i (1)]) (rest := []) 24 rfl rfl ⟨rfl, rfl⟩ (by omega) (zs_X10_isThrown_t (s := s) (v := 1) (by omega) ) ?_
    refine az_to 0 (pc2 := 24) (lv2 := [some (az_r 34), some (az_i (zi))]) (st2 := [az_i (1)]) (s2 := am_up s 34 6 (1)) rfl ?_
    refine az_ifc 31 27 rfl (by decide) ⟨by decide, by decide⟩ (fun h => absurd h (by unfold az_cnd; decide)) (fun _ => ?_)
    refine az_to 2 (pc2 := 38) (lv2 := [some (az_r 34), some (az_i (zi))]) (st2 := [az_i (0)]) (s2 := am_up s 34 6 (1)) rfl ?_
    refine az_retC rfl rfl (by constructor <;> omega) ?_
    have e : zq_wr l zi = (1, 0) := by unfold zq_wr; rw [if_neg (by omega)]
    rw [e]
    exact ⟨rfl, rfl, fun j hj => by simp [am_up, hj], fun i h1 h2 => by funext j; simp [am_up, h1]⟩
set_option maxRecDepth 100000 in
set_option maxHeartbeats 800000 in
theorem zs_X10_account {d : Nat} {s : az_S} (hd : 4 ≤ d) {S : zR} {h : Nat} (hS : s 35 = S) (hI : zInv S h) (hh : h ≤ 10000) {zw : Int} (h_zw : az_in zw) {n c : Nat} (hn : s 34 17 = ((n : Nat) : Int)) (hc : s 34 5 = ((c : Nat) : Int)) : az_R d am_m_X10_account 0 (az_ini (am_mL am_m_X10_account) [az_r 34, az_i (zw)]) [] (s) (zmq s (zq_ac S n c zw)) := by
  have hz := zI_h hI hh
  have hs0 : s 35 0 = ((zn S 0 : Nat) : Int) := by rw [hS, hz.2.1.1]
  have hs1 : s 35 1 = ((zn S 1 : Nat) : Int) := by rw [hS, hz.2.1.2.1]
  have hs2 : s 35 2 = ((zn S 2 : Nat) : Int) := by rw [hS, hz.2.1.2.2]
  have hs3 : s 35 3 = S 3 := by rw [hS]
  have hs5 : s 35 5 = S 5 := by rw [hS]
  refine az_to 0 (pc2 := 0) (lv2 := [some (az_r 34), some (az_i (zw))]) (st2 := []) (s2 := s) rfl ?_
  refine az_to 4 (pc2 := 5) (lv2 := [some (az_r 34), some (az_i (zw))]) (st2 := [az_i (14), az_i (0), az_i (zw), az_r 34]) (s2 := s) rfl ?_
  refine az_clv (v := some (az_i (az_b (0 ≤ zw ∧ zw ≤ 14)))) (t := s) (m2 := am_m_X10_isIn) (as := [az_i (zw), az_i (0), az_i (14)]) (rest := [az_r 34]) 8 rfl rfl ⟨rfl, rfl⟩ (by omega) (zs_X10_isIn (s := s) (z := zw) (lo := 0) (hi := 14) (by omega) (by first | assumption | exact ⟨by omega, by omega⟩) ⟨by decide, by decide⟩ ⟨by decide, by decide⟩) ?_
  refine az_to 0 (pc2 := 8) (lv2 := [some (az_r 34), some (az_i (zw))]) (st2 := [az_i (az_b (0 ≤ zw ∧ zw ≤ 14)), az_r 34]) (s2 := s) rfl ?_
  refine az_ifbn 15 11 rfl (by decide) (fun h1 => ?_) (fun h1 => ?_)
  · have h1 : 0 ≤ zw ∧ zw ≤ 14 := h1
    refine az_to 2 (pc2 := 17) (lv2 := [some (az_r 34), some (az_i (zw))]) (st2 := [az_i (1), az_i (0), az_r 34]) (s2 := s) rfl ?_
    refine az_clv (v := some (az_i (0))) (t := am_up s 34 6 (0)) (m2 := am_m_X10_isThrown) (as := [az_r 34, az_i (0), az_i (1)]) (rest := []) 20 rfl rfl ⟨rfl, rfl⟩ (by omega) (zs_X10_isThrown_f (s := s) (v := 1) (by omega) ) ?_
    refine az_to 0 (pc2 := 20) (lv2 := [some (az_r 34), some (az_i (zw))]) (st2 := [az_i (0)]) (s2 := am_up s 34 6 (0)) rfl ?_
    refine az_ifc 25 23 rfl (by decide) ⟨by decide, by decide⟩ (fun _ => ?_) (fun h => absurd (show az_cnd _ _ _ by unfold az_cnd; decide) h)
    refine az_to 1 (pc2 := 26) (lv2 := [some (az_r 34), some (az_i (zw))]) (st2 := [az_i (zw)]) (s2 := am_up s 34 6 (0)) rfl ?_
    have h2 : (zw < 0 ∨ 13 < zw) ∨ zw = 0 ∨ zw = 1 ∨ zw = 2 ∨ zw = 3 ∨ zw = 4 ∨ zw = 5 ∨ zw = 6 ∨ zw = 7 ∨ zw = 8 ∨ zw = 9 ∨ zw = 10 ∨ zw = 11 ∨ zw = 12 ∨ zw = 13 := by omega
    rcases h2 with h2 | h2 | h2 | h2 | h2 | h2 | h2 | h2 | h2 | h2 | h2 | h2 | h2 | h2 | h2
    · refine az_swd 157 rfl (by first | assumption | exact ⟨by omega, by omega⟩) h2 (by decide) ?_
      refine az_to 2 (pc2 := 161) (lv2 := [some (az_r 34), some (az_i (zw))]) (st2 := [az_i ((am_up s 34 6 (0)) 34 5)]) (s2 := am_up s 34 6 (0)) rfl ?_
      refine az_to 0 (pc2 := 161) (lv2 := [some (az_r 34), some (az_i (zw))]) (st2 := [az_i (((c : Nat) : Int))]) (s2 := am_up s 34 6 (0)) (by rw [show (am_up s 34 6 (0)) 34 5 = ((c : Nat) : Int) from hc]; rfl) ?_
      refine az_retI rfl rfl ?_
      have e : zq_ac S n c zw = (0, ((c : Nat) : Int)) := by
        unfold zq_ac
        rw [if_neg (by omega)]
        obtain rfl : zw = 14 := (by omega)
        rfl
      rw [e]
      exact ⟨rfl, rfl, fun j hj => by simp [am_up, hj], fun i h1 h2 => by funext j; simp [am_up, h1]⟩
    · refine az_swc 96 rfl (by first | assumption | exact ⟨by omega, by omega⟩) (by omega) (off := 70) (by rw [h2]; rfl) (by decide) ?_
      subst h2
      refine az_to 0 (pc2 := 96) (lv2 := [some (az_r 34), some (az_i (0))]) (st2 := []) (s2 := am_up s 34 6 (0)) (rfl) ?_
      refine az_to 3 (pc2 := 101) (lv2 := [some (az_r 34), some (az_i (0))]) (st2 := [az_i (0), az_r 35]) (s2 := am_up s 34 6 (0)) rfl ?_
      refine az_ld_i 102 rfl rfl (by constructor <;> omega) ⟨by decide, rfl⟩ ?_
      refine az_to 0 (pc2 := 102) (lv2 := [some (az_r 34), some (az_i (0))]) (st2 := [az_i ((am_up s 34 6 (0)) 35 0)]) (s2 := am_up s 34 6 (0)) rfl ?_
      refine az_to 0 (pc2 := 102) (lv2 := [some (az_r 34), some (az_i (0))]) (st2 := [az_i (((zn S 0 : Nat) : Int))]) (s2 := am_up s 34 6 (0)) (by rw [show (am_up s 34 6 (0)) 35 0 = ((zn S 0 : Nat) : Int) from hs0]; rfl) ?_
      refine az_retI rfl rfl ?_
      have e : zq_ac S n c 0 = (0, ((zn S 0 : Nat) : Int)) := by
        unfold zq_ac
        rw [if_neg (by omega)]
        first | rfl | (simp only [hz.2.1.1, hz.2.1.2.1, hz.2.1.2.2]; rfl) | (rw [← zchs_5 hI]; rfl)
      rw [e]
      exact ⟨rfl, rfl, fun j hj => by simp [am_up, hj], fun i h1 h2 => by funext j; simp [am_up, h1]⟩
    · refine az_swc 96 rfl (by first | assumption | exact ⟨by omega, by omega⟩) (by omega) (off := 70) (by rw [h2]; rfl) (by decide) ?_
      subst h2
      refine az_to 0 (pc2 := 96) (lv2 := [some (az_r 34), some (az_i (1))]) (st2 := []) (s2 := am_up s 34 6 (0)) (rfl) ?_
      refine az_to 3 (pc2 := 101) (lv2 := [some (az_r 34), some (az_i (1))]) (st2 := [az_i (1), az_r 35]) (s2 := am_up s 34 6 (0)) rfl ?_
      refine az_ld_i 102 rfl rfl (by constructor <;> omega) ⟨by decide, rfl⟩ ?_
      refine az_to 0 (pc2 := 102) (lv2 := [some (az_r 34), some (az_i (1))]) (st2 := [az_i ((am_up s 34 6 (0)) 35 1)]) (s2 := am_up s 34 6 (0)) rfl ?_
      refine az_to 0 (pc2 := 102) (lv2 := [some (az_r 34), some (az_i (1))]) (st2 := [az_i (((zn S 1 : Nat) : Int))]) (s2 := am_up s 34 6 (0)) (by rw [show (am_up s 34 6 (0)) 35 1 = ((zn S 1 : Nat) : Int) from hs1]; rfl) ?_
      refine az_retI rfl rfl ?_
      have e : zq_ac S n c 1 = (0, ((zn S 1 : Nat) : Int)) := by
        unfold zq_ac
        rw [if_neg (by omega)]
        first | rfl | (simp only [hz.2.1.1, hz.2.1.2.1, hz.2.1.2.2]; rfl) | (rw [← zchs_5 hI]; rfl)
      rw [e]
      exact ⟨rfl, rfl, fun j hj => by simp [am_up, hj], fun i h1 h2 => by funext j; simp [am_up, h1]⟩
    · refine az_swc 96 rfl (by first | assumption | exact ⟨by omega, by omega⟩) (by omega) (off := 70) (by rw [h2]; rfl) (by decide) ?_
      subst h2
      refine az_to 0 (pc2 := 96) (lv2 := [some (az_r 34), some (az_i (2))]) (st2 := []) (s2 := am_up s 34 6 (0)) (rfl) ?_
      refine az_to 3 (pc2 := 101) (lv2 := [some (az_r 34), some (az_i (2))]) (st2 := [az_i (2), az_r 35]) (s2 := am_up s 34 6 (0)) rfl ?_
      refine az_ld_i 102 rfl rfl (by constructor <;> omega) ⟨by decide, rfl⟩ ?_
      refine az_to 0 (pc2 := 102) (lv2 := [some (az_r 34), some (az_i (2))]) (st2 := [az_i ((am_up s 34 6 (0)) 35 2)]) (s2 := am_up s 34 6 (0)) rfl ?_
      refine az_to 0 (pc2 := 102) (lv2 := [some (az_r 34), some (az_i (2))]) (st2 := [az_i (((zn S 2 : Nat) : Int))]) (s2 := am_up s 34 6 (0)) (by rw [show (am_up s 34 6 (0)) 35 2 = ((zn S 2 : Nat) : Int) from hs2]; rfl) ?_
      refine az_retI rfl rfl ?_
      have e : zq_ac S n c 2 = (0, ((zn S 2 : Nat) : Int)) := by
        unfold zq_ac
        rw [if_neg (by omega)]
        first | rfl | (simp only [hz.2.1.1, hz.2.1.2.1, hz.2.1.2.2]; rfl) | (rw [← zchs_5 hI]; rfl)
      rw [e]
      exact ⟨rfl, rfl, fun j hj => by simp [am_up, hj], fun i h1 h2 => by funext j; simp [am_up, h1]⟩
    · refine az_swc 96 rfl (by first | assumption | exact ⟨by omega, by omega⟩) (by omega) (off := 70) (by rw [h2]; rfl) (by decide) ?_
      subst h2
      refine az_to 0 (pc2 := 96) (lv2 := [some (az_r 34), some (az_i (3))]) (st2 := []) (s2 := am_up s 34 6 (0)) (rfl) ?_
      refine az_to 3 (pc2 := 101) (lv2 := [some (az_r 34), some (az_i (3))]) (st2 := [az_i (3), az_r 35]) (s2 := am_up s 34 6 (0)) rfl ?_
      refine az_ld_i 102 rfl rfl (by constructor <;> omega) ⟨by decide, rfl⟩ ?_
      refine az_to 0 (pc2 := 102) (lv2 := [some (az_r 34), some (az_i (3))]) (st2 := [az_i ((am_up s 34 6 (0)) 35 3)]) (s2 := am_up s 34 6 (0)) rfl ?_
      refine az_to 0 (pc2 := 102) (lv2 := [some (az_r 34), some (az_i (3))]) (st2 := [az_i (S 3)]) (s2 := am_up s 34 6 (0)) (by rw [show (am_up s 34 6 (0)) 35 3 = S 3 from hs3]; rfl) ?_
      refine az_retI rfl rfl ?_
      have e : zq_ac S n c 3 = (0, S 3) := by
        unfold zq_ac
        rw [if_neg (by omega)]
        first | rfl | (simp only [hz.2.1.1, hz.2.1.2.1, hz.2.1.2.2]; rfl) | (rw [← zchs_5 hI]; rfl)
      rw [e]
      exact ⟨rfl, rfl, fun j hj => by simp [am_up, hj], fun i h1 h2 => by funext j; simp [am_up, h1]⟩
    · refine az_swc 103 rfl (by first | assumption | exact ⟨by omega, by omega⟩) (by omega) (off := 77) (by rw [h2]; rfl) (by decide) ?_
      subst h2
      refine az_to 0 (pc2 := 103) (lv2 := [some (az_r 34), some (az_i (4))]) (st2 := []) (s2 := am_up s 34 6 (0)) (rfl) ?_
      refine az_to 1 (pc2 := 104) (lv2 := [some (az_r 34), some (az_i (4))]) (st2 := [az_r 34]) (s2 := am_up s 34 6 (0)) rfl ?_
      refine az_clv (v := some (az_i (zstr S))) (t := am_up s 34 6 (0)) (m2 := am_m_X10_strikers) (as := [az_r 34]) (rest := []) 107 rfl rfl ⟨rfl, rfl⟩ (by omega) (zs_X10_strikers (s := am_up s 34 6 (0))  (by omega) hS hI hh) ?_
      refine az_to 0 (pc2 := 107) (lv2 := [some (az_r 34), some (az_i (4))]) (st2 := [az_i (zstr S)]) (s2 := am_up s 34 6 (0)) rfl ?_
      refine az_retI rfl rfl ?_
      have e : zq_ac S n c 4 = (0, zstr S) := by
        unfold zq_ac
        rw [if_neg (by omega)]
        first | rfl | (simp only [hz.2.1.1, hz.2.1.2.1, hz.2.1.2.2]; rfl) | (rw [← zchs_5 hI]; rfl)
      rw [e]
      exact ⟨rfl, rfl, fun j hj => by simp [am_up, hj], fun i h1 h2 => by funext j; simp [am_up, h1]⟩
    · refine az_swc 108 rfl (by first | assumption | exact ⟨by omega, by omega⟩) (by omega) (off := 82) (by rw [h2]; rfl) (by decide) ?_
      subst h2
      refine az_to 0 (pc2 := 108) (lv2 := [some (az_r 34), some (az_i (5))]) (st2 := []) (s2 := am_up s 34 6 (0)) (rfl) ?_
      refine az_to 1 (pc2 := 109) (lv2 := [some (az_r 34), some (az_i (5))]) (st2 := [az_r 34]) (s2 := am_up s 34 6 (0)) rfl ?_
      refine az_clv (v := some (az_i (zcd S))) (t := am_up s 34 6 (0)) (m2 := am_m_X10_disputes) (as := [az_r 34]) (rest := []) 112 rfl rfl ⟨rfl, rfl⟩ (by omega) (zs_X10_disputes (s := am_up s 34 6 (0))  (by omega) hS hI hh) ?_
      refine az_to 0 (pc2 := 112) (lv2 := [some (az_r 34), some (az_i (5))]) (st2 := [az_i (zcd S)]) (s2 := am_up s 34 6 (0)) rfl ?_
      refine az_retI rfl rfl ?_
      have e : zq_ac S n c 5 = (0, zcd S) := by
        unfold zq_ac
        rw [if_neg (by omega)]
        first | rfl | (simp only [hz.2.1.1, hz.2.1.2.1, hz.2.1.2.2]; rfl) | (rw [← zchs_5 hI]; rfl)
      rw [e]
      exact ⟨rfl, rfl, fun j hj => by simp [am_up, hj], fun i h1 h2 => by funext j; simp [am_up, h1]⟩
    · refine az_swc 113 rfl (by first | assumption | exact ⟨by omega, by omega⟩) (by omega) (off := 87) (by rw [h2]; rfl) (by decide) ?_
      subst h2
      refine az_to 0 (pc2 := 113) (lv2 := [some (az_r 34), some (az_i (6))]) (st2 := []) (s2 := am_up s 34 6 (0)) (rfl) ?_
      refine az_to 1 (pc2 := 114) (lv2 := [some (az_r 34), some (az_i (6))]) (st2 := [az_r 34]) (s2 := am_up s 34 6 (0)) rfl ?_
      refine az_clv (v := some (az_i (zhl S))) (t := am_up s 34 6 (0)) (m2 := am_m_X10_holding) (as := [az_r 34]) (rest := []) 117 rfl rfl ⟨rfl, rfl⟩ (by omega) (zs_X10_holding (s := am_up s 34 6 (0))  (by omega) hS hI hh) ?_
      refine az_to 0 (pc2 := 117) (lv2 := [some (az_r 34), some (az_i (6))]) (st2 := [az_i (zhl S)]) (s2 := am_up s 34 6 (0)) rfl ?_
      refine az_retI rfl rfl ?_
      have e : zq_ac S n c 6 = (0, zhl S) := by
        unfold zq_ac
        rw [if_neg (by omega)]
        first | rfl | (simp only [hz.2.1.1, hz.2.1.2.1, hz.2.1.2.2]; rfl) | (rw [← zchs_5 hI]; rfl)
      rw [e]
      exact ⟨rfl, rfl, fun j hj => by simp [am_up, hj], fun i h1 h2 => by funext j; simp [am_up, h1]⟩
    · refine az_swc 118 rfl (by first | assumption | exact ⟨by omega, by omega⟩) (by omega) (off := 92) (by rw [h2]; rfl) (by decide) ?_
      subst h2
      refine az_to 0 (pc2 := 118) (lv2 := [some (az_r 34), some (az_i (7))]) (st2 := []) (s2 := am_up s 34 6 (0)) (rfl) ?_
      refine az_to 1 (pc2 := 119) (lv2 := [some (az_r 34), some (az_i (7))]) (st2 := [az_r 34]) (s2 := am_up s 34 6 (0)) rfl ?_
      refine az_clv (v := some (az_i (zcf S))) (t := am_up s 34 6 (0)) (m2 := am_m_X10_inFog) (as := [az_r 34]) (rest := []) 122 rfl rfl ⟨rfl, rfl⟩ (by omega) (zs_X10_inFog (s := am_up s 34 6 (0))  (by omega) hS hI hh) ?_
      refine az_to 0 (pc2 := 122) (lv2 := [some (az_r 34), some (az_i (7))]) (st2 := [az_i (zcf S)]) (s2 := am_up s 34 6 (0)) rfl ?_
      refine az_retI rfl rfl ?_
      have e : zq_ac S n c 7 = (0, zcf S) := by
        unfold zq_ac
        rw [if_neg (by omega)]
        first | rfl | (simp only [hz.2.1.1, hz.2.1.2.1, hz.2.1.2.2]; rfl) | (rw [← zchs_5 hI]; rfl)
      rw [e]
      exact ⟨rfl, rfl, fun j hj => by simp [am_up, hj], fun i h1 h2 => by funext j; simp [am_up, h1]⟩
    · refine az_swc 123 rfl (by first | assumption | exact ⟨by omega, by omega⟩) (by omega) (off := 97) (by rw [h2]; rfl) (by decide) ?_
      subst h2
      refine az_to 0 (pc2 := 123) (lv2 := [some (az_r 34), some (az_i (8))]) (st2 := []) (s2 := am_up s 34 6 (0)) (rfl) ?_
      refine az_to 3 (pc2 := 128) (lv2 := [some (az_r 34), some (az_i (8))]) (st2 := [az_i (5), az_r 35]) (s2 := am_up s 34 6 (0)) rfl ?_
      refine az_ld_i 129 rfl rfl (by constructor <;> omega) ⟨by decide, rfl⟩ ?_
      refine az_to 0 (pc2 := 129) (lv2 := [some (az_r 34), some (az_i (8))]) (st2 := [az_i ((am_up s 34 6 (0)) 35 5)]) (s2 := am_up s 34 6 (0)) rfl ?_
      refine az_to 0 (pc2 := 129) (lv2 := [some (az_r 34), some (az_i (8))]) (st2 := [az_i (S 5)]) (s2 := am_up s 34 6 (0)) (by rw [show (am_up s 34 6 (0)) 35 5 = S 5 from hs5]; rfl) ?_
      refine az_retI rfl rfl ?_
      have e : zq_ac S n c 8 = (0, S 5) := by
        unfold zq_ac
        rw [if_neg (by omega)]
        first | rfl | (simp only [hz.2.1.1, hz.2.1.2.1, hz.2.1.2.2]; rfl) | (rw [← zchs_5 hI]; rfl)
      rw [e]
      exact ⟨rfl, rfl, fun j hj => by simp [am_up, hj], fun i h1 h2 => by funext j; simp [am_up, h1]⟩
    · refine az_swc 130 rfl (by first | assumption | exact ⟨by omega, by omega⟩) (by omega) (off := 104) (by rw [h2]; rfl) (by decide) ?_
      subst h2
      refine az_to 0 (pc2 := 130) (lv2 := [some (az_r 34), some (az_i (9))]) (st2 := []) (s2 := am_up s 34 6 (0)) (rfl) ?_
      refine az_to 1 (pc2 := 131) (lv2 := [some (az_r 34), some (az_i (9))]) (st2 := [az_r 34]) (s2 := am_up s 34 6 (0)) rfl ?_
      refine az_clv (v := some (az_i (zsg S 1))) (t := am_up s 34 6 (0)) (m2 := am_m_X10_coinsOfGoats) (as := [az_r 34]) (rest := []) 134 rfl rfl ⟨rfl, rfl⟩ (by omega) (zs_X10_coinsOfGoats (s := am_up s 34 6 (0))  (by omega) hS hI hh) ?_
      refine az_to 0 (pc2 := 134) (lv2 := [some (az_r 34), some (az_i (9))]) (st2 := [az_i (zsg S 1)]) (s2 := am_up s 34 6 (0)) rfl ?_
      refine az_retI rfl rfl ?_
      have e : zq_ac S n c 9 = (0, zsg S 1) := by
        unfold zq_ac
        rw [if_neg (by omega)]
        first | rfl | (simp only [hz.2.1.1, hz.2.1.2.1, hz.2.1.2.2]; rfl) | (rw [← zchs_5 hI]; rfl)
      rw [e]
      exact ⟨rfl, rfl, fun j hj => by simp [am_up, hj], fun i h1 h2 => by funext j; simp [am_up, h1]⟩
    · refine az_swc 135 rfl (by first | assumption | exact ⟨by omega, by omega⟩) (by omega) (off := 109) (by rw [h2]; rfl) (by decide) ?_
      subst h2
      refine az_to 0 (pc2 := 135) (lv2 := [some (az_r 34), some (az_i (10))]) (st2 := []) (s2 := am_up s 34 6 (0)) (rfl) ?_
      refine az_to 1 (pc2 := 136) (lv2 := [some (az_r 34), some (az_i (10))]) (st2 := [az_r 34]) (s2 := am_up s 34 6 (0)) rfl ?_
      refine az_clv (v := some (az_i (zst S 1))) (t := am_up s 34 6 (0)) (m2 := am_m_X10_coinsOfTrolls) (as := [az_r 34]) (rest := []) 139 rfl rfl ⟨rfl, rfl⟩ (by omega) (zs_X10_coinsOfTrolls (s := am_up s 34 6 (0))  (by omega) hS hI hh) ?_
      refine az_to 0 (pc2 := 139) (lv2 := [some (az_r 34), some (az_i (10))]) (st2 := [az_i (zst S 1)]) (s2 := am_up s 34 6 (0)) rfl ?_
      refine az_retI rfl rfl ?_
      have e : zq_ac S n c 10 = (0, zst S 1) := by
        unfold zq_ac
        rw [if_neg (by omega)]
        first | rfl | (simp only [hz.2.1.1, hz.2.1.2.1, hz.2.1.2.2]; rfl) | (rw [← zchs_5 hI]; rfl)
      rw [e]
      exact ⟨rfl, rfl, fun j hj => by simp [am_up, hj], fun i h1 h2 => by funext j; simp [am_up, h1]⟩
    · refine az_swc 140 rfl (by first | assumption | exact ⟨by omega, by omega⟩) (by omega) (off := 114) (by rw [h2]; rfl) (by decide) ?_
      subst h2
      refine az_to 0 (pc2 := 140) (lv2 := [some (az_r 34), some (az_i (11))]) (st2 := []) (s2 := am_up s 34 6 (0)) (rfl) ?_
      refine az_to 1 (pc2 := 141) (lv2 := [some (az_r 34), some (az_i (11))]) (st2 := [az_r 34]) (s2 := am_up s 34 6 (0)) rfl ?_
      refine az_clv (v := some (az_i (zs (zn S 0) (fun b => zs5 S b)))) (t := am_up s 34 6 (0)) (m2 := am_m_X10_chests) (as := [az_r 34]) (rest := []) 144 rfl rfl ⟨rfl, rfl⟩ (by omega) (zs_X10_chests (s := am_up s 34 6 (0))  (by omega) hS hI hh) ?_
      refine az_to 0 (pc2 := 144) (lv2 := [some (az_r 34), some (az_i (11))]) (st2 := [az_i (zs (zn S 0) (fun b => zs5 S b))]) (s2 := am_up s 34 6 (0)) rfl ?_
      refine az_retI rfl rfl ?_
      have e : zq_ac S n c 11 = (0, zs (zn S 0) (fun b => zs5 S b)) := by
        unfold zq_ac
        rw [if_neg (by omega)]
        first | rfl | (simp only [hz.2.1.1, hz.2.1.2.1, hz.2.1.2.2]; rfl) | (rw [← zchs_5 hI]; rfl)
      rw [e]
      exact ⟨rfl, rfl, fun j hj => by simp [am_up, hj], fun i h1 h2 => by funext j; simp [am_up, h1]⟩
    · refine az_swc 145 rfl (by first | assumption | exact ⟨by omega, by omega⟩) (by omega) (off := 119) (by rw [h2]; rfl) (by decide) ?_
      subst h2
      refine az_to 0 (pc2 := 145) (lv2 := [some (az_r 34), some (az_i (12))]) (st2 := []) (s2 := am_up s 34 6 (0)) (rfl) ?_
      refine az_to 3 (pc2 := 150) (lv2 := [some (az_r 34), some (az_i (12))]) (st2 := [az_i (4), az_r 35]) (s2 := am_up s 34 6 (0)) rfl ?_
      refine az_ld_i 151 rfl rfl (by constructor <;> omega) ⟨by decide, rfl⟩ ?_
      refine az_to 0 (pc2 := 151) (lv2 := [some (az_r 34), some (az_i (12))]) (st2 := [az_i ((am_up s 34 6 (0)) 35 4)]) (s2 := am_up s 34 6 (0)) rfl ?_
      refine az_to 0 (pc2 := 151) (lv2 := [some (az_r 34), some (az_i (12))]) (st2 := [az_i (S 4)]) (s2 := am_up s 34 6 (0)) (by rw [show (am_up s 34 6 (0)) 35 4 = S 4 from (by show s 35 4 = S 4; rw [hS])]; rfl) ?_
      refine az_retI rfl rfl ?_
      have e : zq_ac S n c 12 = (0, S 4) := by
        unfold zq_ac
        rw [if_neg (by omega)]
        first | rfl | (simp only [hz.2.1.1, hz.2.1.2.1, hz.2.1.2.2]; rfl) | (rw [← zchs_5 hI]; rfl)
      rw [e]
      exact ⟨rfl, rfl, fun j hj => by simp [am_up, hj], fun i h1 h2 => by funext j; simp [am_up, h1]⟩
    · refine az_swc 152 rfl (by first | assumption | exact ⟨by omega, by omega⟩) (by omega) (off := 126) (by rw [h2]; rfl) (by decide) ?_
      subst h2
      refine az_to 0 (pc2 := 152) (lv2 := [some (az_r 34), some (az_i (13))]) (st2 := []) (s2 := am_up s 34 6 (0)) (rfl) ?_
      refine az_to 2 (pc2 := 156) (lv2 := [some (az_r 34), some (az_i (13))]) (st2 := [az_i ((am_up s 34 6 (0)) 34 17)]) (s2 := am_up s 34 6 (0)) rfl ?_
      refine az_to 0 (pc2 := 156) (lv2 := [some (az_r 34), some (az_i (13))]) (st2 := [az_i (((n : Nat) : Int))]) (s2 := am_up s 34 6 (0)) (by rw [show (am_up s 34 6 (0)) 34 17 = ((n : Nat) : Int) from hn]; rfl) ?_
      refine az_retI rfl rfl ?_
      have e : zq_ac S n c 13 = (0, ((n : Nat) : Int)) := by
        unfold zq_ac
        rw [if_neg (by omega)]
        first | rfl | (simp only [hz.2.1.1, hz.2.1.2.1, hz.2.1.2.2]; rfl) | (rw [← zchs_5 hI]; rfl)
      rw [e]
      exact ⟨rfl, rfl, fun j hj => by simp [am_up, hj], fun i h1 h2 => by funext j; simp [am_up, h1]⟩
  · have h1 : ¬ (0 ≤ zw ∧ zw ≤ 14) := h1
    refine az_to 3 (pc2 := 17) (lv2 := [some (az_r 34), some (az_i (zw))]) (st2 := [az_i (1), az_i (1), az_r 34]) (s2 := s) rfl ?_
    refine az_clv (v := some (az_i (1))) (t := am_up s 34 6 (1)) (m2 := am_m_X10_isThrown) (as := [az_r 34, az_i (1), az_i (1)]) (rest := []) 20 rfl rfl ⟨rfl, rfl⟩ (by omega) (zs_X10_isThrown_t (s := s) (v := 1) (by omega) ) ?_
    refine az_to 0 (pc2 := 20) (lv2 := [some (az_r 34), some (az_i (zw))]) (st2 := [az_i (1)]) (s2 := am_up s 34 6 (1)) rfl ?_
    refine az_ifc 25 23 rfl (by decide) ⟨by decide, by decide⟩ (fun h => absurd h (by unfold az_cnd; decide)) (fun _ => ?_)
    refine az_to 1 (pc2 := 24) (lv2 := [some (az_r 34), some (az_i (zw))]) (st2 := [az_i (0)]) (s2 := am_up s 34 6 (1)) rfl ?_
    refine az_retI rfl rfl ?_
    have e : zq_ac S n c zw = (1, 0) := by unfold zq_ac; rw [if_pos (by omega)]
    rw [e]
    exact ⟨rfl, rfl, fun j hj => by simp [am_up, hj], fun i h1 h2 => by funext j; simp [am_up, h1]⟩
set_option maxRecDepth 100000 in
set_option maxHeartbeats 800000 in
theorem zs_X10_undo_y {d : Nat} {s : az_S} (hd : 2 ≤ d) {c : Nat} (hc : s 34 5 = ((c + 1 : Nat) : Int)) (hc8 : c + 1 ≤ 8) : az_R d am_m_X10_undo 0 (az_ini (am_mL am_m_X10_undo) [az_r 34]) [] (s) (fun o t => o = .inl (some (az_i ((c : Nat) : Int))) ∧ t 35 = va_cpy (s 38) (s 35) (175 * c) 0 175 ∧ t 34 5 = ((c : Nat) : Int) ∧ t 34 6 = 0 ∧ (∀ j, j ≠ 5 → j ≠ 6 → t 34 j = s 34 j) ∧ ∀ i, i ≠ 34 → i ≠ 35 → t i = s i) := by
  refine az_to 0 (pc2 := 0) (lv2 := [some (az_r 34)]) (st2 := []) (s2 := s) rfl ?_
  refine az_to 3 (pc2 := 5) (lv2 := [some (az_r 34)]) (st2 := [az_i (s 34 5), az_r 34]) (s2 := s) rfl ?_
  refine az_to 0 (pc2 := 5) (lv2 := [some (az_r 34)]) (st2 := [az_i ((((c + 1) : Nat) : Int)), az_r 34]) (s2 := s) (by rw [show s 34 5 = ((c + 1 : Nat) : Int) from hc]; rfl) ?_
  refine az_ifc 12 8 rfl (by decide) (by first | assumption | exact ⟨by omega, by omega⟩) (fun h1 => ?_) (fun h1 => ?_)
  · have h1 : ¬ (((c + 1) : Nat) : Int) = 0 := h1
    refine az_to 2 (pc2 := 14) (lv2 := [some (az_r 34)]) (st2 := [az_i (1), az_i (0), az_r 34]) (s2 := s) rfl ?_
    refine az_clv (v := some (az_i (0))) (t := am_up s 34 6 (0)) (m2 := am_m_X10_isThrown) (as := [az_r 34, az_i (0), az_i (1)]) (rest := []) 17 rfl rfl ⟨rfl, rfl⟩ (by omega) (zs_X10_isThrown_f (s := s) (v := 1) (by omega) ) ?_
    refine az_to 0 (pc2 := 17) (lv2 := [some (az_r 34)]) (st2 := [az_i (0)]) (s2 := am_up s 34 6 (0)) rfl ?_
    refine az_ifc 22 20 rfl (by decide) ⟨by decide, by decide⟩ (fun _ => ?_) (fun h => absurd (show az_cnd _ _ _ by unfold az_cnd; decide) h)
    refine az_to 3 (pc2 := 27) (lv2 := [some (az_r 34)]) (st2 := [az_i ((am_up s 34 6 (0)) 34 5), az_r 34]) (s2 := am_up s 34 6 (0)) rfl ?_
    refine az_to 0 (pc2 := 27) (lv2 := [some (az_r 34)]) (st2 := [az_i ((((c + 1) : Nat) : Int)), az_r 34]) (s2 := am_up s 34 6 (0)) (by rw [show (am_up s 34 6 (0)) 34 5 = ((c + 1 : Nat) : Int) from hc]; rfl) ?_
    refine az_to 2 (pc2 := 29) (lv2 := [some (az_r 34)]) (st2 := [az_i (((((c + 1) : Nat) : Int) - 1)), az_r 34]) (s2 := am_up s 34 6 (0)) rfl ?_
    refine az_to 0 (pc2 := 29) (lv2 := [some (az_r 34)]) (st2 := [az_i (((c : Nat) : Int)), az_r 34]) (s2 := am_up s 34 6 (0)) (by rw [show (((((c + 1) : Nat) : Int) - 1) : Int) = ((c : Nat) : Int) from by omega]; rfl) ?_
    refine az_to 6 (pc2 := 43) (lv2 := [some (az_r 34)]) (st2 := [az_i ((am_up (am_up s 34 6 (0)) 34 5 (((c : Nat) : Int))) 34 5), az_i (175), az_r 38]) (s2 := am_up (am_up s 34 6 (0)) 34 5 (((c : Nat) : Int))) rfl ?_
    refine az_to 0 (pc2 := 43) (lv2 := [some (az_r 34)]) (st2 := [az_i (((c : Nat) : Int)), az_i (175), az_r 38]) (s2 := am_up (am_up s 34 6 (0)) 34 5 (((c : Nat) : Int))) (by rfl) ?_
    refine az_to 4 (pc2 := 49) (lv2 := [some (az_r 34)]) (st2 := [az_i (0), az_r 35, az_i ((175 * ((c : Nat) : Int))), az_r 38]) (s2 := am_up (am_up s 34 6 (0)) 34 5 (((c : Nat) : Int))) rfl ?_
    refine az_cl (m2 := am_m_X10_copies) (as := [az_r 38, az_i ((175 * ((c : Nat) : Int))), az_r 35, az_i (0)]) (rest := []) 52 rfl rfl ⟨rfl, rfl⟩ (by omega) (zs_X10_copies_u (s := am_up (am_up s 34 6 (0)) 34 5 (((c : Nat) : Int))) (p := (175 * c)) (by omega) (by omega)) (fun v2 t2 q2 => ?_) (fun E t2 q2 => by cases q2.1)
    obtain ⟨o2, ff2, gg2⟩ := q2
    cases o2
    refine az_to 0 (pc2 := 52) (lv2 := [some (az_r 34)]) (st2 := []) (s2 := t2) rfl ?_
    refine az_to 2 (pc2 := 56) (lv2 := [some (az_r 34)]) (st2 := [az_i (t2 34 5)]) (s2 := t2) rfl ?_
    refine az_to 0 (pc2 := 56) (lv2 := [some (az_r 34)]) (st2 := [az_i (((c : Nat) : Int))]) (s2 := t2) (by rw [show t2 34 5 = ((c : Nat) : Int) from (by rw [gg2 34 (by decide)]; rfl)]; rfl) ?_
    refine az_retI rfl rfl ?_
    exact ⟨rfl, ff2, by rw [gg2 34 (by decide)]; rfl, by rw [gg2 34 (by decide)]; rfl, fun j0 h5 h6 => by rw [gg2 34 (by decide)]; simp [am_up, h5, h6], fun i h1 h2 => by rw [gg2 i h2]; funext b; simp [am_up, h1]⟩
  · have h1 : (((c + 1) : Nat) : Int) = 0 := Decidable.not_not.mp h1
    exact absurd h1 (by omega)
set_option maxRecDepth 100000 in
set_option maxHeartbeats 800000 in
theorem zs_X10_undo_n {d : Nat} {s : az_S} (hd : 2 ≤ d) (hc : s 34 5 = 0) : az_R d am_m_X10_undo 0 (az_ini (am_mL am_m_X10_undo) [az_r 34]) [] (s) (fun o t => o = .inl (some (az_i 0)) ∧ t = am_up s 34 6 (1)) := by
  refine az_to 0 (pc2 := 0) (lv2 := [some (az_r 34)]) (st2 := []) (s2 := s) rfl ?_
  refine az_to 3 (pc2 := 5) (lv2 := [some (az_r 34)]) (st2 := [az_i (s 34 5), az_r 34]) (s2 := s) rfl ?_
  refine az_to 0 (pc2 := 5) (lv2 := [some (az_r 34)]) (st2 := [az_i (0), az_r 34]) (s2 := s) (by rw [hc]; rfl) ?_
  refine az_ifc 12 8 rfl (by decide) ⟨by decide, by decide⟩ (fun h => absurd h (by unfold az_cnd; decide)) (fun _ => ?_)
  refine az_to 3 (pc2 := 14) (lv2 := [some (az_r 34)]) (st2 := [az_i (1), az_i (1), az_r 34]) (s2 := s) rfl ?_
  refine az_clv (v := some (az_i (1))) (t := am_up s 34 6 (1)) (m2 := am_m_X10_isThrown) (as := [az_r 34, az_i (1), az_i (1)]) (rest := []) 17 rfl rfl ⟨rfl, rfl⟩ (by omega) (zs_X10_isThrown_t (s := s) (v := 1) (by omega) ) ?_
  refine az_to 0 (pc2 := 17) (lv2 := [some (az_r 34)]) (st2 := [az_i (1)]) (s2 := am_up s 34 6 (1)) rfl ?_
  refine az_ifc 22 20 rfl (by decide) ⟨by decide, by decide⟩ (fun h => absurd h (by unfold az_cnd; decide)) (fun _ => ?_)
  refine az_to 1 (pc2 := 21) (lv2 := [some (az_r 34)]) (st2 := [az_i (0)]) (s2 := am_up s 34 6 (1)) rfl ?_
  refine az_retI rfl rfl ?_
  exact ⟨rfl, rfl⟩
set_option maxRecDepth 100000 in
set_option maxHeartbeats 800000 in
theorem zs_X10_save {d : Nat} {s : az_S} (hd : 2 ≤ d) {S : zR} {h : Nat} (hS : s 35 = S) (hI : zInv S h) (hh : h ≤ 10000) : az_R d am_m_X10_save 0 (az_ini (am_mL am_m_X10_save) [az_r 34]) [] (s) (fun o t => o = .inl (some (az_i ((zn S 0 : Nat) : Int))) ∧ t 37 = va_cpy (s 35) (s 37) 0 0 175 ∧ t 34 12 = 1 ∧ t 34 6 = 0 ∧ (∀ j, j ≠ 12 → j ≠ 6 → t 34 j = s 34 j) ∧ ∀ i, i ≠ 34 → i ≠ 37 → t i = s i) := by
  have hz := zI_h hI hh
  have hs0 : s 35 0 = ((zn S 0 : Nat) : Int) := by rw [hS, hz.2.1.1]
  have hs1 : s 35 1 = ((zn S 1 : Nat) : Int) := by rw [hS, hz.2.1.2.1]
  have hs2 : s 35 2 = ((zn S 2 : Nat) : Int) := by rw [hS, hz.2.1.2.2]
  have hs3 : s 35 3 = S 3 := by rw [hS]
  have hs5 : s 35 5 = S 5 := by rw [hS]
  refine az_to 0 (pc2 := 0) (lv2 := [some (az_r 34)]) (st2 := []) (s2 := s) rfl ?_
  refine az_to 9 (pc2 := 15) (lv2 := [some (az_r 34)]) (st2 := [az_i (0), az_r 37, az_i (0), az_r 35]) (s2 := am_up s 34 6 (0)) rfl ?_
  refine az_cl (m2 := am_m_X10_copies) (as := [az_r 35, az_i (0), az_r 37, az_i (0)]) (rest := []) 18 rfl rfl ⟨rfl, rfl⟩ (by omega) (zs_X10_copies_s (s := am_up s 34 6 (0))  (by omega) ) (fun v1 t1 q1 => ?_) (fun E t1 q1 => by cases q1.1)
  obtain ⟨o1, ff1, gg1⟩ := q1
  cases o1
  refine az_to 0 (pc2 := 18) (lv2 := [some (az_r 34)]) (st2 := []) (s2 := t1) rfl ?_
  refine az_to 6 (pc2 := 28) (lv2 := [some (az_r 34)]) (st2 := [az_i (0), az_r 35]) (s2 := am_up t1 34 12 (1)) rfl ?_
  refine az_ld_i 29 rfl rfl (by constructor <;> omega) ⟨by decide, rfl⟩ ?_
  refine az_to 0 (pc2 := 29) (lv2 := [some (az_r 34)]) (st2 := [az_i ((am_up t1 34 12 (1)) 35 0)]) (s2 := am_up t1 34 12 (1)) rfl ?_
  refine az_to 0 (pc2 := 29) (lv2 := [some (az_r 34)]) (st2 := [az_i (((zn S 0 : Nat) : Int))]) (s2 := am_up t1 34 12 (1)) (by rw [show (am_up t1 34 12 (1)) 35 0 = ((zn S 0 : Nat) : Int) from (by show t1 35 0 = _; rw [gg1 35 (by decide)]; exact hs0)]; rfl) ?_
  refine az_retI rfl rfl ?_
  exact ⟨rfl, ff1, rfl, by show t1 34 6 = 0; rw [gg1 34 (by decide)]; rfl, fun j0 h5 h6 => by simp only [am_up, if_true, if_neg h5]; rw [gg1 34 (by decide)]; simp [am_up, h6], fun i h1 h2 => by rw [show am_up t1 34 12 (1) i = t1 i from (by funext b; simp [am_up, h1]), gg1 i h2]; funext b; simp [am_up, h1]⟩
set_option maxRecDepth 100000 in
set_option maxHeartbeats 800000 in
theorem zs_X10_restore_y {d : Nat} {s : az_S} (hd : 2 ≤ d) {S : zR} {h : Nat} (hS : va_cpy (s 37) (s 35) 0 0 175 = S) (hI : zInv S h) (hh : h ≤ 10000) (hk : s 34 12 = 1) : az_R d am_m_X10_restore 0 (az_ini (am_mL am_m_X10_restore) [az_r 34]) [] (s) (fun o t => o = .inl (some (az_i ((zn S 0 : Nat) : Int))) ∧ t 35 = va_cpy (s 37) (s 35) 0 0 175 ∧ t 34 5 = 0 ∧ t 34 6 = 0 ∧ (∀ j, j ≠ 5 → j ≠ 6 → t 34 j = s 34 j) ∧ ∀ i, i ≠ 34 → i ≠ 35 → t i = s i) := by
  have hz := zI_h hI hh
  have hs0 : va_cpy (s 37) (s 35) 0 0 175 0 = ((zn S 0 : Nat) : Int) := by rw [hS, hz.2.1.1]
  refine az_to 0 (pc2 := 0) (lv2 := [some (az_r 34)]) (st2 := []) (s2 := s) rfl ?_
  refine az_to 3 (pc2 := 5) (lv2 := [some (az_r 34)]) (st2 := [az_i (s 34 12), az_r 34]) (s2 := s) rfl ?_
  refine az_to 0 (pc2 := 5) (lv2 := [some (az_r 34)]) (st2 := [az_i (1), az_r 34]) (s2 := s) (by rw [hk]; rfl) ?_
  refine az_ifc 12 8 rfl (by decide) ⟨by decide, by decide⟩ (fun _ => ?_) (fun h => absurd (show az_cnd _ _ _ by unfold az_cnd; decide) h)
  refine az_to 2 (pc2 := 14) (lv2 := [some (az_r 34)]) (st2 := [az_i (1), az_i (0), az_r 34]) (s2 := s) rfl ?_
  refine az_clv (v := some (az_i (0))) (t := am_up s 34 6 (0)) (m2 := am_m_X10_isThrown) (as := [az_r 34, az_i (0), az_i (1)]) (rest := []) 17 rfl rfl ⟨rfl, rfl⟩ (by omega) (zs_X10_isThrown_f (s := s) (v := 1) (by omega) ) ?_
  refine az_to 0 (pc2 := 17) (lv2 := [some (az_r 34)]) (st2 := [az_i (0)]) (s2 := am_up s 34 6 (0)) rfl ?_
  refine az_ifc 22 20 rfl (by decide) ⟨by decide, by decide⟩ (fun _ => ?_) (fun h => absurd (show az_cnd _ _ _ by unfold az_cnd; decide) h)
  refine az_to 6 (pc2 := 32) (lv2 := [some (az_r 34)]) (st2 := [az_i (0), az_r 35, az_i (0), az_r 37]) (s2 := am_up s 34 6 (0)) rfl ?_
  refine az_cl (m2 := am_m_X10_copies) (as := [az_r 37, az_i (0), az_r 35, az_i (0)]) (rest := []) 35 rfl rfl ⟨rfl, rfl⟩ (by omega) (zs_X10_copies_r (s := am_up s 34 6 (0))  (by omega) ) (fun v1 t1 q1 => ?_) (fun E t1 q1 => by cases q1.1)
  obtain ⟨o1, ff1, gg1⟩ := q1
  cases o1
  refine az_to 0 (pc2 := 35) (lv2 := [some (az_r 34)]) (st2 := []) (s2 := t1) rfl ?_
  refine az_to 6 (pc2 := 45) (lv2 := [some (az_r 34)]) (st2 := [az_i (0), az_r 35]) (s2 := am_up t1 34 5 (0)) rfl ?_
  refine az_ld_i 46 rfl rfl (by constructor <;> omega) ⟨by decide, rfl⟩ ?_
  refine az_to 0 (pc2 := 46) (lv2 := [some (az_r 34)]) (st2 := [az_i ((am_up t1 34 5 (0)) 35 0)]) (s2 := am_up t1 34 5 (0)) rfl ?_
  refine az_to 0 (pc2 := 46) (lv2 := [some (az_r 34)]) (st2 := [az_i (((zn S 0 : Nat) : Int))]) (s2 := am_up t1 34 5 (0)) (by rw [show (am_up t1 34 5 (0)) 35 0 = ((zn S 0 : Nat) : Int) from (by show t1 35 0 = _; rw [ff1]; exact hs0)]; rfl) ?_
  refine az_retI rfl rfl ?_
  exact ⟨rfl, ff1, rfl, by show t1 34 6 = 0; rw [gg1 34 (by decide)]; rfl, fun j0 h5 h6 => by simp only [am_up, if_true, if_neg h5]; rw [gg1 34 (by decide)]; simp [am_up, h6], fun i h1 h2 => by rw [show am_up t1 34 5 (0) i = t1 i from (by funext b; simp [am_up, h1]), gg1 i h2]; funext b; simp [am_up, h1]⟩
set_option maxRecDepth 100000 in
set_option maxHeartbeats 800000 in
theorem zs_X10_restore_n {d : Nat} {s : az_S} (hd : 2 ≤ d) (hk : s 34 12 = 0) : az_R d am_m_X10_restore 0 (az_ini (am_mL am_m_X10_restore) [az_r 34]) [] (s) (fun o t => o = .inl (some (az_i 0)) ∧ t = am_up s 34 6 (1)) := by
  refine az_to 0 (pc2 := 0) (lv2 := [some (az_r 34)]) (st2 := []) (s2 := s) rfl ?_
  refine az_to 3 (pc2 := 5) (lv2 := [some (az_r 34)]) (st2 := [az_i (s 34 12), az_r 34]) (s2 := s) rfl ?_
  refine az_to 0 (pc2 := 5) (lv2 := [some (az_r 34)]) (st2 := [az_i (0), az_r 34]) (s2 := s) (by rw [hk]; rfl) ?_
  refine az_ifc 12 8 rfl (by decide) ⟨by decide, by decide⟩ (fun h => absurd h (by unfold az_cnd; decide)) (fun _ => ?_)
  refine az_to 3 (pc2 := 14) (lv2 := [some (az_r 34)]) (st2 := [az_i (1), az_i (1), az_r 34]) (s2 := s) rfl ?_
  refine az_clv (v := some (az_i (1))) (t := am_up s 34 6 (1)) (m2 := am_m_X10_isThrown) (as := [az_r 34, az_i (1), az_i (1)]) (rest := []) 17 rfl rfl ⟨rfl, rfl⟩ (by omega) (zs_X10_isThrown_t (s := s) (v := 1) (by omega) ) ?_
  refine az_to 0 (pc2 := 17) (lv2 := [some (az_r 34)]) (st2 := [az_i (1)]) (s2 := am_up s 34 6 (1)) rfl ?_
  refine az_ifc 22 20 rfl (by decide) ⟨by decide, by decide⟩ (fun h => absurd h (by unfold az_cnd; decide)) (fun _ => ?_)
  refine az_to 1 (pc2 := 21) (lv2 := [some (az_r 34)]) (st2 := [az_i (0)]) (s2 := am_up s 34 6 (1)) rfl ?_
  refine az_retI rfl rfl ?_
  exact ⟨rfl, rfl⟩
set_option maxRecDepth 100000 in
set_option maxHeartbeats 800000 in
theorem zs_X10_puts {d : Nat} {s : az_S} (hd : 0 ≤ d) {l : List Int} (hl : zLm s l) {ch : Int} (h16 : l.length < 16) : az_R d am_m_X10_puts 0 (az_ini (am_mL am_m_X10_puts) [az_r 34, az_i (ch)]) [] (s) (fun o t => o = .inl none ∧ zLm t (l ++ [ch]) ∧ zFM s t) := by
  refine az_to 0 (pc2 := 0) (lv2 := [some (az_r 34), some (az_i (ch))]) (st2 := []) (s2 := s) rfl ?_
  refine az_to 4 (pc2 := 8) (lv2 := [some (az_r 34), some (az_i (ch))]) (st2 := [az_i (s 34 14), az_r 40]) (s2 := s) rfl ?_
  refine az_to 0 (pc2 := 8) (lv2 := [some (az_r 34), some (az_i (ch))]) (st2 := [az_i (((l.length : Nat) : Int)), az_r 40]) (s2 := s) (by rw [show s 34 14 = ((l.length : Nat) : Int) from hl.1]; rfl) ?_
  refine az_to 1 (pc2 := 9) (lv2 := [some (az_r 34), some (az_i (ch))]) (st2 := [az_i (ch), az_i (((l.length : Nat) : Int)), az_r 40]) (s2 := s) rfl ?_
  refine az_st_i 10 rfl rfl (by constructor <;> omega) ⟨by decide, rfl⟩ ?_
  refine az_to 3 (pc2 := 15) (lv2 := [some (az_r 34), some (az_i (ch))]) (st2 := [az_i ((am_up s 40 l.length (ch)) 34 14), az_r 34]) (s2 := am_up s 40 l.length (ch)) rfl ?_
  refine az_to 0 (pc2 := 15) (lv2 := [some (az_r 34), some (az_i (ch))]) (st2 := [az_i (((l.length : Nat) : Int)), az_r 34]) (s2 := am_up s 40 l.length (ch)) (by rw [show (am_up s 40 l.length (ch)) 34 14 = ((l.length : Nat) : Int) from hl.1]; rfl) ?_
  refine az_to 3 (pc2 := 20) (lv2 := [some (az_r 34), some (az_i (ch))]) (st2 := []) (s2 := am_up (am_up s 40 l.length (ch)) 34 14 ((((l.length : Nat) : Int) + 1))) rfl ?_
  refine az_ret0 rfl rfl ?_
  exact ⟨rfl, zLm_ap hl⟩
set_option maxRecDepth 100000 in
set_option maxHeartbeats 800000 in
theorem zs_X10_tell {d : Nat} {s : az_S} (hd : 5 ≤ d) {S : zR} {h : Nat} (hS : s 35 = S) (hI : zInv S h) (hh : h ≤ 10000) {zb : Int} (h_zb : az_in zb) : az_R d am_m_X10_tell 0 (az_ini (am_mL am_m_X10_tell) [az_r 34, az_i (zb)]) [] (s) (fun o t => o = .inl (some (az_i (if (zq_tell S zb).1 = 0 then (zq_tell S zb).2 else 0))) ∧ t 34 6 = (zq_tell S zb).1 ∧ ((zq_tell S zb).1 = 0 → zLm t (zline S zb.toNat)) ∧ (∀ j, j ≠ 6 → j ≠ 14 → t 34 j = s 34 j) ∧ ∀ i, i ≠ 34 → i ≠ 40 → t i = s i) := by
  have hz := zI_h hI hh
  have hs0 : s 35 0 = ((zn S 0 : Nat) : Int) := by rw [hS, hz.2.1.1]
  have hs1 : s 35 1 = ((zn S 1 : Nat) : Int) := by rw [hS, hz.2.1.2.1]
  have hs2 : s 35 2 = ((zn S 2 : Nat) : Int) := by rw [hS, hz.2.1.2.2]
  have hs3 : s 35 3 = S 3 := by rw [hS]
  have hs5 : s 35 5 = S 5 := by rw [hS]
  refine az_to 0 (pc2 := 0) (lv2 := [some (az_r 34), some (az_i (zb))]) (st2 := []) (s2 := s) rfl ?_
  refine az_to 3 (pc2 := 3) (lv2 := [some (az_r 34), some (az_i (zb))]) (st2 := [az_i (zb), az_r 34, az_r 34]) (s2 := s) rfl ?_
  refine az_clv (v := some (az_i (az_b (0 ≤ zb ∧ zb < ((zn S 0 : Nat) : Int))))) (t := s) (m2 := am_m_X10_isBridge) (as := [az_r 34, az_i (zb)]) (rest := [az_r 34]) 6 rfl rfl ⟨rfl, rfl⟩ (by omega) (zs_X10_isBridge (s := s) (z := zb) (by omega) hS hI hh (by first | assumption | exact ⟨by omega, by omega⟩)) ?_
  refine az_to 0 (pc2 := 6) (lv2 := [some (az_r 34), some (az_i (zb))]) (st2 := [az_i (az_b (0 ≤ zb ∧ zb < ((zn S 0 : Nat) : Int))), az_r 34]) (s2 := s) rfl ?_
  refine az_ifbn 13 9 rfl (by decide) (fun h1 => ?_) (fun h1 => ?_)
  · have h1 : 0 ≤ zb ∧ zb < ((zn S 0 : Nat) : Int) := h1
    obtain ⟨b, rfl⟩ : ∃ n0 : Nat, zb = n0 := ⟨zb.toNat, by omega⟩
    have hzb := zI_b hI hh (b := b) (by omega)
    refine az_to 0 (pc2 := 13) (lv2 := [some (az_r 34), some (az_i (((b : Nat) : Int)))]) (st2 := [az_r 34]) (s2 := s) (rfl) ?_
    refine az_to 2 (pc2 := 15) (lv2 := [some (az_r 34), some (az_i (((b : Nat) : Int)))]) (st2 := [az_i (1), az_i (0), az_r 34]) (s2 := s) rfl ?_
    refine az_clv (v := some (az_i (0))) (t := am_up s 34 6 (0)) (m2 := am_m_X10_isThrown) (as := [az_r 34, az_i (0), az_i (1)]) (rest := []) 18 rfl rfl ⟨rfl, rfl⟩ (by omega) (zs_X10_isThrown_f (s := s) (v := 1) (by omega) ) ?_
    refine az_to 0 (pc2 := 18) (lv2 := [some (az_r 34), some (az_i (((b : Nat) : Int)))]) (st2 := [az_i (0)]) (s2 := am_up s 34 6 (0)) rfl ?_
    have hm0 := (zLm_0 (am_up s 34 6 (0))).1
    have hF0 := (zLm_0 (am_up s 34 6 (0))).2
    refine az_ifc 23 21 rfl (by decide) ⟨by decide, by decide⟩ (fun _ => ?_) (fun h => absurd (show az_cnd _ _ _ by unfold az_cnd; decide) h)
    refine az_to 7 (pc2 := 33) (lv2 := [some (az_r 34), some (az_i (((b : Nat) : Int)))]) (st2 := [az_i ((48 + ((b : Nat) : Int))), az_r 34]) (s2 := am_up (am_up s 34 6 (0)) 34 14 (0)) rfl ?_
    refine az_cl (m2 := am_m_X10_puts) (as := [az_r 34, az_i ((48 + ((b : Nat) : Int)))]) (rest := []) 36 rfl rfl ⟨rfl, rfl⟩ (by omega) (zs_X10_puts (s := am_up (am_up s 34 6 (0)) 34 14 (0)) (ch := ((48 + ((b : Nat) : Int)))) (by omega) hm0 (by simp)) (fun v2 t2 q2 => ?_) (fun E t2 q2 => by cases q2.1)
    obtain ⟨o2, hl2, hf2⟩ := q2
    cases o2
    refine az_to 0 (pc2 := 36) (lv2 := [some (az_r 34), some (az_i (((b : Nat) : Int)))]) (st2 := []) (s2 := t2) rfl ?_
    have hS2 : t2 35 = S := by rw [hf2.1 35 (by decide) (by decide)]; exact hS
    have hF2 := zFM_t hF0 hf2
    refine az_to 2 (pc2 := 39) (lv2 := [some (az_r 34), some (az_i (((b : Nat) : Int)))]) (st2 := [az_i (58), az_r 34]) (s2 := t2) rfl ?_
    refine az_cl (m2 := am_m_X10_puts) (as := [az_r 34, az_i (58)]) (rest := []) 42 rfl rfl ⟨rfl, rfl⟩ (by omega) (zs_X10_puts (s := t2) (ch := 58) (by omega) hl2 (by simp)) (fun v3 t3 q3 => ?_) (fun E t3 q3 => by cases q3.1)
    obtain ⟨o3, hl3, hf3⟩ := q3
    cases o3
    refine az_to 0 (pc2 := 42) (lv2 := [some (az_r 34), some (az_i (((b : Nat) : Int)))]) (st2 := []) (s2 := t3) rfl ?_
    have hS3 : t3 35 = S := by rw [hf3.1 35 (by decide) (by decide)]; exact hS2
    have hF3 := zFM_t hF2 hf3
    refine az_to 5 (pc2 := 48) (lv2 := [some (az_r 34), some (az_i (((b : Nat) : Int)))]) (st2 := [az_i (0), az_i (((b : Nat) : Int)), az_r 34, az_i (48), az_r 34]) (s2 := t3) rfl ?_
    refine az_clv (v := some (az_i (zB S b 0))) (t := t3) (m2 := am_m_X10_of) (as := [az_r 34, az_i (((b : Nat) : Int)), az_i (0)]) (rest := [az_i (48), az_r 34]) 51 rfl rfl ⟨rfl, rfl⟩ (by omega) (zs_X10_of (s := t3) (b := b) (k := 0) (by omega) hS3 (by omega) (by omega)) ?_
    refine az_to 0 (pc2 := 51) (lv2 := [some (az_r 34), some (az_i (((b : Nat) : Int)))]) (st2 := [az_i (zB S b 0), az_i (48), az_r 34]) (s2 := t3) rfl ?_
    refine az_to 1 (pc2 := 52) (lv2 := [some (az_r 34), some (az_i (((b : Nat) : Int)))]) (st2 := [az_i ((48 + zB S b 0)), az_r 34]) (s2 := t3) rfl ?_
    refine az_cl (m2 := am_m_X10_puts) (as := [az_r 34, az_i ((48 + zB S b 0))]) (rest := []) 55 rfl rfl ⟨rfl, rfl⟩ (by omega) (zs_X10_puts (s := t3) (ch := ((48 + zB S b 0))) (by omega) hl3 (by simp)) (fun v4 t4 q4 => ?_) (fun E t4 q4 => by cases q4.1)
    obtain ⟨o4, hl4, hf4⟩ := q4
    cases o4
    refine az_to 0 (pc2 := 55) (lv2 := [some (az_r 34), some (az_i (((b : Nat) : Int)))]) (st2 := []) (s2 := t4) rfl ?_
    have hS4 : t4 35 = S := by rw [hf4.1 35 (by decide) (by decide)]; exact hS3
    have hF4 := zFM_t hF3 hf4
    refine az_to 5 (pc2 := 61) (lv2 := [some (az_r 34), some (az_i (((b : Nat) : Int)))]) (st2 := [az_i (1), az_i (((b : Nat) : Int)), az_r 34, az_i (48), az_r 34]) (s2 := t4) rfl ?_
    refine az_clv (v := some (az_i (zB S b 1))) (t := t4) (m2 := am_m_X10_of) (as := [az_r 34, az_i (((b : Nat) : Int)), az_i (1)]) (rest := [az_i (48), az_r 34]) 64 rfl rfl ⟨rfl, rfl⟩ (by omega) (zs_X10_of (s := t4) (b := b) (k := 1) (by omega) hS4 (by omega) (by omega)) ?_
    refine az_to 0 (pc2 := 64) (lv2 := [some (az_r 34), some (az_i (((b : Nat) : Int)))]) (st2 := [az_i (zB S b 1), az_i (48), az_r 34]) (s2 := t4) rfl ?_
    refine az_to 1 (pc2 := 65) (lv2 := [some (az_r 34), some (az_i (((b : Nat) : Int)))]) (st2 := [az_i ((48 + zB S b 1)), az_r 34]) (s2 := t4) rfl ?_
    refine az_cl (m2 := am_m_X10_puts) (as := [az_r 34, az_i ((48 + zB S b 1))]) (rest := []) 68 rfl rfl ⟨rfl, rfl⟩ (by omega) (zs_X10_puts (s := t4) (ch := ((48 + zB S b 1))) (by omega) hl4 (by simp)) (fun v5 t5 q5 => ?_) (fun E t5 q5 => by cases q5.1)
    obtain ⟨o5, hl5, hf5⟩ := q5
    cases o5
    refine az_to 0 (pc2 := 68) (lv2 := [some (az_r 34), some (az_i (((b : Nat) : Int)))]) (st2 := []) (s2 := t5) rfl ?_
    have hS5 : t5 35 = S := by rw [hf5.1 35 (by decide) (by decide)]; exact hS4
    have hF5 := zFM_t hF4 hf5
    refine az_to 2 (pc2 := 71) (lv2 := [some (az_r 34), some (az_i (((b : Nat) : Int)))]) (st2 := [az_i (42), az_r 34]) (s2 := t5) rfl ?_
    refine az_cl (m2 := am_m_X10_puts) (as := [az_r 34, az_i (42)]) (rest := []) 74 rfl rfl ⟨rfl, rfl⟩ (by omega) (zs_X10_puts (s := t5) (ch := 42) (by omega) hl5 (by simp)) (fun v6 t6 q6 => ?_) (fun E t6 q6 => by cases q6.1)
    obtain ⟨o6, hl6, hf6⟩ := q6
    cases o6
    refine az_to 0 (pc2 := 74) (lv2 := [some (az_r 34), some (az_i (((b : Nat) : Int)))]) (st2 := []) (s2 := t6) rfl ?_
    have hS6 : t6 35 = S := by rw [hf6.1 35 (by decide) (by decide)]; exact hS5
    have hF6 := zFM_t hF5 hf6
    refine az_to 5 (pc2 := 80) (lv2 := [some (az_r 34), some (az_i (((b : Nat) : Int)))]) (st2 := [az_i (2), az_i (((b : Nat) : Int)), az_r 34, az_i (48), az_r 34]) (s2 := t6) rfl ?_
    refine az_clv (v := some (az_i (zB S b 2))) (t := t6) (m2 := am_m_X10_of) (as := [az_r 34, az_i (((b : Nat) : Int)), az_i (2)]) (rest := [az_i (48), az_r 34]) 83 rfl rfl ⟨rfl, rfl⟩ (by omega) (zs_X10_of (s := t6) (b := b) (k := 2) (by omega) hS6 (by omega) (by omega)) ?_
    refine az_to 0 (pc2 := 83) (lv2 := [some (az_r 34), some (az_i (((b : Nat) : Int)))]) (st2 := [az_i (zB S b 2), az_i (48), az_r 34]) (s2 := t6) rfl ?_
    refine az_to 1 (pc2 := 84) (lv2 := [some (az_r 34), some (az_i (((b : Nat) : Int)))]) (st2 := [az_i ((48 + zB S b 2)), az_r 34]) (s2 := t6) rfl ?_
    refine az_cl (m2 := am_m_X10_puts) (as := [az_r 34, az_i ((48 + zB S b 2))]) (rest := []) 87 rfl rfl ⟨rfl, rfl⟩ (by omega) (zs_X10_puts (s := t6) (ch := ((48 + zB S b 2))) (by omega) hl6 (by simp)) (fun v7 t7 q7 => ?_) (fun E t7 q7 => by cases q7.1)
    obtain ⟨o7, hl7, hf7⟩ := q7
    cases o7
    refine az_to 0 (pc2 := 87) (lv2 := [some (az_r 34), some (az_i (((b : Nat) : Int)))]) (st2 := []) (s2 := t7) rfl ?_
    have hS7 : t7 35 = S := by rw [hf7.1 35 (by decide) (by decide)]; exact hS6
    have hF7 := zFM_t hF6 hf7
    refine az_to 2 (pc2 := 90) (lv2 := [some (az_r 34), some (az_i (((b : Nat) : Int)))]) (st2 := [az_i (36), az_r 34]) (s2 := t7) rfl ?_
    refine az_cl (m2 := am_m_X10_puts) (as := [az_r 34, az_i (36)]) (rest := []) 93 rfl rfl ⟨rfl, rfl⟩ (by omega) (zs_X10_puts (s := t7) (ch := 36) (by omega) hl7 (by simp)) (fun v8 t8 q8 => ?_) (fun E t8 q8 => by cases q8.1)
    obtain ⟨o8, hl8, hf8⟩ := q8
    cases o8
    refine az_to 0 (pc2 := 93) (lv2 := [some (az_r 34), some (az_i (((b : Nat) : Int)))]) (st2 := []) (s2 := t8) rfl ?_
    have hS8 : t8 35 = S := by rw [hf8.1 35 (by decide) (by decide)]; exact hS7
    have hF8 := zFM_t hF7 hf8
    refine az_to 5 (pc2 := 99) (lv2 := [some (az_r 34), some (az_i (((b : Nat) : Int)))]) (st2 := [az_i (3), az_i (((b : Nat) : Int)), az_r 34, az_i (48), az_r 34]) (s2 := t8) rfl ?_
    refine az_clv (v := some (az_i (zB S b 3))) (t := t8) (m2 := am_m_X10_of) (as := [az_r 34, az_i (((b : Nat) : Int)), az_i (3)]) (rest := [az_i (48), az_r 34]) 102 rfl rfl ⟨rfl, rfl⟩ (by omega) (zs_X10_of (s := t8) (b := b) (k := 3) (by omega) hS8 (by omega) (by omega)) ?_
    refine az_to 0 (pc2 := 102) (lv2 := [some (az_r 34), some (az_i (((b : Nat) : Int)))]) (st2 := [az_i (zB S b 3), az_i (48), az_r 34]) (s2 := t8) rfl ?_
    refine az_to 1 (pc2 := 103) (lv2 := [some (az_r 34), some (az_i (((b : Nat) : Int)))]) (st2 := [az_i ((48 + zB S b 3)), az_r 34]) (s2 := t8) rfl ?_
    refine az_cl (m2 := am_m_X10_puts) (as := [az_r 34, az_i ((48 + zB S b 3))]) (rest := []) 106 rfl rfl ⟨rfl, rfl⟩ (by omega) (zs_X10_puts (s := t8) (ch := ((48 + zB S b 3))) (by omega) hl8 (by simp)) (fun v9 t9 q9 => ?_) (fun E t9 q9 => by cases q9.1)
    obtain ⟨o9, hl9, hf9⟩ := q9
    cases o9
    refine az_to 0 (pc2 := 106) (lv2 := [some (az_r 34), some (az_i (((b : Nat) : Int)))]) (st2 := []) (s2 := t9) rfl ?_
    have hS9 : t9 35 = S := by rw [hf9.1 35 (by decide) (by decide)]; exact hS8
    have hF9 := zFM_t hF8 hf9
    refine az_to 2 (pc2 := 108) (lv2 := [some (az_r 34), some (az_i (((b : Nat) : Int)))]) (st2 := [az_i (((b : Nat) : Int)), az_r 34]) (s2 := t9) rfl ?_
    refine az_clv (v := some (az_i (zat S b))) (t := t9) (m2 := am_m_X10_trollAt) (as := [az_r 34, az_i (((b : Nat) : Int))]) (rest := []) 111 rfl rfl ⟨rfl, rfl⟩ (by omega) (zs_X10_trollAt (s := t9) (b := b) (by omega) hS9 hI hh (by omega)) ?_
    refine az_to 0 (pc2 := 111) (lv2 := [some (az_r 34), some (az_i (((b : Nat) : Int)))]) (st2 := [az_i (zat S b)]) (s2 := t9) rfl ?_
    refine az_ifc 132 114 rfl (by decide) (by first | assumption | exact ⟨by omega, by omega⟩) (fun h10 => ?_) (fun h10 => ?_)
    · have h10 : zat S b < 0 := h10
      refine az_to 2 (pc2 := 134) (lv2 := [some (az_r 34), some (az_i (((b : Nat) : Int)))]) (st2 := [az_i (((b : Nat) : Int)), az_r 34]) (s2 := t9) rfl ?_
      refine az_clv (v := some (az_i (az_b (S 3 < zB S b 4)))) (t := t9) (m2 := am_m_X10_isInFog) (as := [az_r 34, az_i (((b : Nat) : Int))]) (rest := []) 137 rfl rfl ⟨rfl, rfl⟩ (by omega) (zs_X10_isInFog (s := t9) (b := b) (by omega) hS9 hI hh (by omega)) ?_
      refine az_to 0 (pc2 := 137) (lv2 := [some (az_r 34), some (az_i (((b : Nat) : Int)))]) (st2 := [az_i (az_b (S 3 < zB S b 4))]) (s2 := t9) rfl ?_
      refine az_ifbe 146 140 rfl (by decide) (fun h11 => ?_) (fun h11 => ?_)
      · have h11 : ¬ (S 3 < zB S b 4) := h11
        refine az_to 3 (pc2 := 149) (lv2 := [some (az_r 34), some (az_i (((b : Nat) : Int)))]) (st2 := [az_i (5), az_i (((b : Nat) : Int)), az_r 34]) (s2 := t9) rfl ?_
        refine az_clv (v := some (az_i (zB S b 5))) (t := t9) (m2 := am_m_X10_of) (as := [az_r 34, az_i (((b : Nat) : Int)), az_i (5)]) (rest := []) 152 rfl rfl ⟨rfl, rfl⟩ (by omega) (zs_X10_of (s := t9) (b := b) (k := 5) (by omega) hS9 (by omega) (by omega)) ?_
        refine az_to 0 (pc2 := 152) (lv2 := [some (az_r 34), some (az_i (((b : Nat) : Int)))]) (st2 := [az_i (zB S b 5)]) (s2 := t9) rfl ?_
        refine az_ifc 161 155 rfl (by decide) (by first | assumption | exact ⟨by omega, by omega⟩) (fun h12 => ?_) (fun h12 => ?_)
        · have h12 : zB S b 5 < 0 := h12
          refine az_to 2 (pc2 := 165) (lv2 := [some (az_r 34), some (az_i (((b : Nat) : Int)))]) (st2 := [az_i (t9 34 14)]) (s2 := t9) rfl ?_
          refine az_to 0 (pc2 := 165) (lv2 := [some (az_r 34), some (az_i (((b : Nat) : Int)))]) (st2 := [az_i ((((((((((((([] : List Int) ++ [((48 + ((b : Nat) : Int)))]) ++ [58]) ++ [((48 + zB S b 0))]) ++ [((48 + zB S b 1))]) ++ [42]) ++ [((48 + zB S b 2))]) ++ [36]) ++ [((48 + zB S b 3))])).length : Nat) : Int))]) (s2 := t9) (by rw [show t9 34 14 = _ from hl9.1]; rfl) ?_
          refine az_retI rfl rfl ?_
          have e : zq_tell S ((b : Nat) : Int) = (0, ((zline S b).length : Int)) := by unfold zq_tell; rw [if_neg (by omega)]; rfl
          have e2 := hl9
          rw [show (((((((((([] : List Int) ++ [((48 + ((b : Nat) : Int)))]) ++ [58]) ++ [((48 + zB S b 0))]) ++ [((48 + zB S b 1))]) ++ [42]) ++ [((48 + zB S b 2))]) ++ [36]) ++ [((48 + zB S b 3))])) = zline S b from (by by_cases w1 : 0 ≤ zat S b <;> by_cases w2 : 0 ≤ zB S b 5 <;> first | (exfalso; omega; done) | simp [zline, *])] at e2
          rw [e]
          exact ⟨by rw [← e2.1, ← hl9.1]; rfl, by rw [hF9.2 6 (by decide)]; rfl, fun _ => e2, fun j h1 h2 => by rw [hF9.2 j h2]; simp [am_up, h1], fun i h1 h2 => by rw [hF9.1 i h1 h2]; funext b; simp [am_up, h1]⟩
        · have h12 : ¬ (zB S b 5 < 0) := h12
          refine az_to 2 (pc2 := 158) (lv2 := [some (az_r 34), some (az_i (((b : Nat) : Int)))]) (st2 := [az_i (63), az_r 34]) (s2 := t9) rfl ?_
          refine az_cl (m2 := am_m_X10_puts) (as := [az_r 34, az_i (63)]) (rest := []) 161 rfl rfl ⟨rfl, rfl⟩ (by omega) (zs_X10_puts (s := t9) (ch := 63) (by omega) hl9 (by simp)) (fun v13 t13 q13 => ?_) (fun E t13 q13 => by cases q13.1)
          obtain ⟨o13, hl13, hf13⟩ := q13
          cases o13
          refine az_to 0 (pc2 := 161) (lv2 := [some (az_r 34), some (az_i (((b : Nat) : Int)))]) (st2 := []) (s2 := t13) rfl ?_
          have hS13 : t13 35 = S := by rw [hf13.1 35 (by decide) (by decide)]; exact hS9
          have hF13 := zFM_t hF9 hf13
          refine az_to 2 (pc2 := 165) (lv2 := [some (az_r 34), some (az_i (((b : Nat) : Int)))]) (st2 := [az_i (t13 34 14)]) (s2 := t13) rfl ?_
          refine az_to 0 (pc2 := 165) (lv2 := [some (az_r 34), some (az_i (((b : Nat) : Int)))]) (st2 := [az_i (((((((((((((([] : List Int) ++ [((48 + ((b : Nat) : Int)))]) ++ [58]) ++ [((48 + zB S b 0))]) ++ [((48 + zB S b 1))]) ++ [42]) ++ [((48 + zB S b 2))]) ++ [36]) ++ [((48 + zB S b 3))]) ++ [63])).length : Nat) : Int))]) (s2 := t13) (by rw [show t13 34 14 = _ from hl13.1]; rfl) ?_
          refine az_retI rfl rfl ?_
          have e : zq_tell S ((b : Nat) : Int) = (0, ((zline S b).length : Int)) := by unfold zq_tell; rw [if_neg (by omega)]; rfl
          have e2 := hl13
          rw [show ((((((((((([] : List Int) ++ [((48 + ((b : Nat) : Int)))]) ++ [58]) ++ [((48 + zB S b 0))]) ++ [((48 + zB S b 1))]) ++ [42]) ++ [((48 + zB S b 2))]) ++ [36]) ++ [((48 + zB S b 3))]) ++ [63])) = zline S b from (by by_cases w1 : 0 ≤ zat S b <;> by_cases w2 : 0 ≤ zB S b 5 <;> first | (exfalso; omega; done) | simp [zline, *])] at e2
          rw [e]
          exact ⟨by rw [← e2.1, ← hl13.1]; rfl, by rw [hF13.2 6 (by decide)]; rfl, fun _ => e2, fun j h1 h2 => by rw [hF13.2 j h2]; simp [am_up, h1], fun i h1 h2 => by rw [hF13.1 i h1 h2]; funext b; simp [am_up, h1]⟩
      · have h11 : S 3 < zB S b 4 := h11
        refine az_to 2 (pc2 := 143) (lv2 := [some (az_r 34), some (az_i (((b : Nat) : Int)))]) (st2 := [az_i (126), az_r 34]) (s2 := t9) rfl ?_
        refine az_cl (m2 := am_m_X10_puts) (as := [az_r 34, az_i (126)]) (rest := []) 146 rfl rfl ⟨rfl, rfl⟩ (by omega) (zs_X10_puts (s := t9) (ch := 126) (by omega) hl9 (by simp)) (fun v14 t14 q14 => ?_) (fun E t14 q14 => by cases q14.1)
        obtain ⟨o14, hl14, hf14⟩ := q14
        cases o14
        refine az_to 0 (pc2 := 146) (lv2 := [some (az_r 34), some (az_i (((b : Nat) : Int)))]) (st2 := []) (s2 := t14) rfl ?_
        have hS14 : t14 35 = S := by rw [hf14.1 35 (by decide) (by decide)]; exact hS9
        have hF14 := zFM_t hF9 hf14
        refine az_to 3 (pc2 := 149) (lv2 := [some (az_r 34), some (az_i (((b : Nat) : Int)))]) (st2 := [az_i (5), az_i (((b : Nat) : Int)), az_r 34]) (s2 := t14) rfl ?_
        refine az_clv (v := some (az_i (zB S b 5))) (t := t14) (m2 := am_m_X10_of) (as := [az_r 34, az_i (((b : Nat) : Int)), az_i (5)]) (rest := []) 152 rfl rfl ⟨rfl, rfl⟩ (by omega) (zs_X10_of (s := t14) (b := b) (k := 5) (by omega) hS14 (by omega) (by omega)) ?_
        refine az_to 0 (pc2 := 152) (lv2 := [some (az_r 34), some (az_i (((b : Nat) : Int)))]) (st2 := [az_i (zB S b 5)]) (s2 := t14) rfl ?_
        refine az_ifc 161 155 rfl (by decide) (by first | assumption | exact ⟨by omega, by omega⟩) (fun h15 => ?_) (fun h15 => ?_)
        · have h15 : zB S b 5 < 0 := h15
          refine az_to 2 (pc2 := 165) (lv2 := [some (az_r 34), some (az_i (((b : Nat) : Int)))]) (st2 := [az_i (t14 34 14)]) (s2 := t14) rfl ?_
          refine az_to 0 (pc2 := 165) (lv2 := [some (az_r 34), some (az_i (((b : Nat) : Int)))]) (st2 := [az_i (((((((((((((([] : List Int) ++ [((48 + ((b : Nat) : Int)))]) ++ [58]) ++ [((48 + zB S b 0))]) ++ [((48 + zB S b 1))]) ++ [42]) ++ [((48 + zB S b 2))]) ++ [36]) ++ [((48 + zB S b 3))]) ++ [126])).length : Nat) : Int))]) (s2 := t14) (by rw [show t14 34 14 = _ from hl14.1]; rfl) ?_
          refine az_retI rfl rfl ?_
          have e : zq_tell S ((b : Nat) : Int) = (0, ((zline S b).length : Int)) := by unfold zq_tell; rw [if_neg (by omega)]; rfl
          have e2 := hl14
          rw [show ((((((((((([] : List Int) ++ [((48 + ((b : Nat) : Int)))]) ++ [58]) ++ [((48 + zB S b 0))]) ++ [((48 + zB S b 1))]) ++ [42]) ++ [((48 + zB S b 2))]) ++ [36]) ++ [((48 + zB S b 3))]) ++ [126])) = zline S b from (by by_cases w1 : 0 ≤ zat S b <;> by_cases w2 : 0 ≤ zB S b 5 <;> first | (exfalso; omega; done) | simp [zline, *])] at e2
          rw [e]
          exact ⟨by rw [← e2.1, ← hl14.1]; rfl, by rw [hF14.2 6 (by decide)]; rfl, fun _ => e2, fun j h1 h2 => by rw [hF14.2 j h2]; simp [am_up, h1], fun i h1 h2 => by rw [hF14.1 i h1 h2]; funext b; simp [am_up, h1]⟩
        · have h15 : ¬ (zB S b 5 < 0) := h15
          refine az_to 2 (pc2 := 158) (lv2 := [some (az_r 34), some (az_i (((b : Nat) : Int)))]) (st2 := [az_i (63), az_r 34]) (s2 := t14) rfl ?_
          refine az_cl (m2 := am_m_X10_puts) (as := [az_r 34, az_i (63)]) (rest := []) 161 rfl rfl ⟨rfl, rfl⟩ (by omega) (zs_X10_puts (s := t14) (ch := 63) (by omega) hl14 (by simp)) (fun v16 t16 q16 => ?_) (fun E t16 q16 => by cases q16.1)
          obtain ⟨o16, hl16, hf16⟩ := q16
          cases o16
          refine az_to 0 (pc2 := 161) (lv2 := [some (az_r 34), some (az_i (((b : Nat) : Int)))]) (st2 := []) (s2 := t16) rfl ?_
          have hS16 : t16 35 = S := by rw [hf16.1 35 (by decide) (by decide)]; exact hS14
          have hF16 := zFM_t hF14 hf16
          refine az_to 2 (pc2 := 165) (lv2 := [some (az_r 34), some (az_i (((b : Nat) : Int)))]) (st2 := [az_i (t16 34 14)]) (s2 := t16) rfl ?_
          refine az_to 0 (pc2 := 165) (lv2 := [some (az_r 34), some (az_i (((b : Nat) : Int)))]) (st2 := [az_i ((((((((((((((([] : List Int) ++ [((48 + ((b : Nat) : Int)))]) ++ [58]) ++ [((48 + zB S b 0))]) ++ [((48 + zB S b 1))]) ++ [42]) ++ [((48 + zB S b 2))]) ++ [36]) ++ [((48 + zB S b 3))]) ++ [126]) ++ [63])).length : Nat) : Int))]) (s2 := t16) (by rw [show t16 34 14 = _ from hl16.1]; rfl) ?_
          refine az_retI rfl rfl ?_
          have e : zq_tell S ((b : Nat) : Int) = (0, ((zline S b).length : Int)) := by unfold zq_tell; rw [if_neg (by omega)]; rfl
          have e2 := hl16
          rw [show (((((((((((([] : List Int) ++ [((48 + ((b : Nat) : Int)))]) ++ [58]) ++ [((48 + zB S b 0))]) ++ [((48 + zB S b 1))]) ++ [42]) ++ [((48 + zB S b 2))]) ++ [36]) ++ [((48 + zB S b 3))]) ++ [126]) ++ [63])) = zline S b from (by by_cases w1 : 0 ≤ zat S b <;> by_cases w2 : 0 ≤ zB S b 5 <;> first | (exfalso; omega; done) | simp [zline, *])] at e2
          rw [e]
          exact ⟨by rw [← e2.1, ← hl16.1]; rfl, by rw [hF16.2 6 (by decide)]; rfl, fun _ => e2, fun j h1 h2 => by rw [hF16.2 j h2]; simp [am_up, h1], fun i h1 h2 => by rw [hF16.1 i h1 h2]; funext b; simp [am_up, h1]⟩
    · have h10 : ¬ (zat S b < 0) := h10
      refine az_to 2 (pc2 := 117) (lv2 := [some (az_r 34), some (az_i (((b : Nat) : Int)))]) (st2 := [az_i (116), az_r 34]) (s2 := t9) rfl ?_
      refine az_cl (m2 := am_m_X10_puts) (as := [az_r 34, az_i (116)]) (rest := []) 120 rfl rfl ⟨rfl, rfl⟩ (by omega) (zs_X10_puts (s := t9) (ch := 116) (by omega) hl9 (by simp)) (fun v17 t17 q17 => ?_) (fun E t17 q17 => by cases q17.1)
      obtain ⟨o17, hl17, hf17⟩ := q17
      cases o17
      refine az_to 0 (pc2 := 120) (lv2 := [some (az_r 34), some (az_i (((b : Nat) : Int)))]) (st2 := []) (s2 := t17) rfl ?_
      have hS17 : t17 35 = S := by rw [hf17.1 35 (by decide) (by decide)]; exact hS9
      have hF17 := zFM_t hF9 hf17
      refine az_to 4 (pc2 := 125) (lv2 := [some (az_r 34), some (az_i (((b : Nat) : Int)))]) (st2 := [az_i (((b : Nat) : Int)), az_r 34, az_i (48), az_r 34]) (s2 := t17) rfl ?_
      refine az_clv (v := some (az_i (zat S b))) (t := t17) (m2 := am_m_X10_trollAt) (as := [az_r 34, az_i (((b : Nat) : Int))]) (rest := [az_i (48), az_r 34]) 128 rfl rfl ⟨rfl, rfl⟩ (by omega) (zs_X10_trollAt (s := t17) (b := b) (by omega) hS17 hI hh (by omega)) ?_
      refine az_to 0 (pc2 := 128) (lv2 := [some (az_r 34), some (az_i (((b : Nat) : Int)))]) (st2 := [az_i (zat S b), az_i (48), az_r 34]) (s2 := t17) rfl ?_
      refine az_to 1 (pc2 := 129) (lv2 := [some (az_r 34), some (az_i (((b : Nat) : Int)))]) (st2 := [az_i ((48 + zat S b)), az_r 34]) (s2 := t17) rfl ?_
      refine az_cl (m2 := am_m_X10_puts) (as := [az_r 34, az_i ((48 + zat S b))]) (rest := []) 132 rfl rfl ⟨rfl, rfl⟩ (by omega) (zs_X10_puts (s := t17) (ch := ((48 + zat S b))) (by omega) hl17 (by simp)) (fun v18 t18 q18 => ?_) (fun E t18 q18 => by cases q18.1)
      obtain ⟨o18, hl18, hf18⟩ := q18
      cases o18
      refine az_to 0 (pc2 := 132) (lv2 := [some (az_r 34), some (az_i (((b : Nat) : Int)))]) (st2 := []) (s2 := t18) rfl ?_
      have hS18 : t18 35 = S := by rw [hf18.1 35 (by decide) (by decide)]; exact hS17
      have hF18 := zFM_t hF17 hf18
      refine az_to 2 (pc2 := 134) (lv2 := [some (az_r 34), some (az_i (((b : Nat) : Int)))]) (st2 := [az_i (((b : Nat) : Int)), az_r 34]) (s2 := t18) rfl ?_
      refine az_clv (v := some (az_i (az_b (S 3 < zB S b 4)))) (t := t18) (m2 := am_m_X10_isInFog) (as := [az_r 34, az_i (((b : Nat) : Int))]) (rest := []) 137 rfl rfl ⟨rfl, rfl⟩ (by omega) (zs_X10_isInFog (s := t18) (b := b) (by omega) hS18 hI hh (by omega)) ?_
      refine az_to 0 (pc2 := 137) (lv2 := [some (az_r 34), some (az_i (((b : Nat) : Int)))]) (st2 := [az_i (az_b (S 3 < zB S b 4))]) (s2 := t18) rfl ?_
      refine az_ifbe 146 140 rfl (by decide) (fun h19 => ?_) (fun h19 => ?_)
      · have h19 : ¬ (S 3 < zB S b 4) := h19
        refine az_to 3 (pc2 := 149) (lv2 := [some (az_r 34), some (az_i (((b : Nat) : Int)))]) (st2 := [az_i (5), az_i (((b : Nat) : Int)), az_r 34]) (s2 := t18) rfl ?_
        refine az_clv (v := some (az_i (zB S b 5))) (t := t18) (m2 := am_m_X10_of) (as := [az_r 34, az_i (((b : Nat) : Int)), az_i (5)]) (rest := []) 152 rfl rfl ⟨rfl, rfl⟩ (by omega) (zs_X10_of (s := t18) (b := b) (k := 5) (by omega) hS18 (by omega) (by omega)) ?_
        refine az_to 0 (pc2 := 152) (lv2 := [some (az_r 34), some (az_i (((b : Nat) : Int)))]) (st2 := [az_i (zB S b 5)]) (s2 := t18) rfl ?_
        refine az_ifc 161 155 rfl (by decide) (by first | assumption | exact ⟨by omega, by omega⟩) (fun h20 => ?_) (fun h20 => ?_)
        · have h20 : zB S b 5 < 0 := h20
          refine az_to 2 (pc2 := 165) (lv2 := [some (az_r 34), some (az_i (((b : Nat) : Int)))]) (st2 := [az_i (t18 34 14)]) (s2 := t18) rfl ?_
          refine az_to 0 (pc2 := 165) (lv2 := [some (az_r 34), some (az_i (((b : Nat) : Int)))]) (st2 := [az_i ((((((((((((((([] : List Int) ++ [((48 + ((b : Nat) : Int)))]) ++ [58]) ++ [((48 + zB S b 0))]) ++ [((48 + zB S b 1))]) ++ [42]) ++ [((48 + zB S b 2))]) ++ [36]) ++ [((48 + zB S b 3))]) ++ [116]) ++ [((48 + zat S b))])).length : Nat) : Int))]) (s2 := t18) (by rw [show t18 34 14 = _ from hl18.1]; rfl) ?_
          refine az_retI rfl rfl ?_
          have e : zq_tell S ((b : Nat) : Int) = (0, ((zline S b).length : Int)) := by unfold zq_tell; rw [if_neg (by omega)]; rfl
          have e2 := hl18
          rw [show (((((((((((([] : List Int) ++ [((48 + ((b : Nat) : Int)))]) ++ [58]) ++ [((48 + zB S b 0))]) ++ [((48 + zB S b 1))]) ++ [42]) ++ [((48 + zB S b 2))]) ++ [36]) ++ [((48 + zB S b 3))]) ++ [116]) ++ [((48 + zat S b))])) = zline S b from (by by_cases w1 : 0 ≤ zat S b <;> by_cases w2 : 0 ≤ zB S b 5 <;> first | (exfalso; omega; done) | simp [zline, *])] at e2
          rw [e]
          exact ⟨by rw [← e2.1, ← hl18.1]; rfl, by rw [hF18.2 6 (by decide)]; rfl, fun _ => e2, fun j h1 h2 => by rw [hF18.2 j h2]; simp [am_up, h1], fun i h1 h2 => by rw [hF18.1 i h1 h2]; funext b; simp [am_up, h1]⟩
        · have h20 : ¬ (zB S b 5 < 0) := h20
          refine az_to 2 (pc2 := 158) (lv2 := [some (az_r 34), some (az_i (((b : Nat) : Int)))]) (st2 := [az_i (63), az_r 34]) (s2 := t18) rfl ?_
          refine az_cl (m2 := am_m_X10_puts) (as := [az_r 34, az_i (63)]) (rest := []) 161 rfl rfl ⟨rfl, rfl⟩ (by omega) (zs_X10_puts (s := t18) (ch := 63) (by omega) hl18 (by simp)) (fun v21 t21 q21 => ?_) (fun E t21 q21 => by cases q21.1)
          obtain ⟨o21, hl21, hf21⟩ := q21
          cases o21
          refine az_to 0 (pc2 := 161) (lv2 := [some (az_r 34), some (az_i (((b : Nat) : Int)))]) (st2 := []) (s2 := t21) rfl ?_
          have hS21 : t21 35 = S := by rw [hf21.1 35 (by decide) (by decide)]; exact hS18
          have hF21 := zFM_t hF18 hf21
          refine az_to 2 (pc2 := 165) (lv2 := [some (az_r 34), some (az_i (((b : Nat) : Int)))]) (st2 := [az_i (t21 34 14)]) (s2 := t21) rfl ?_
          refine az_to 0 (pc2 := 165) (lv2 := [some (az_r 34), some (az_i (((b : Nat) : Int)))]) (st2 := [az_i (((((((((((((((([] : List Int) ++ [((48 + ((b : Nat) : Int)))]) ++ [58]) ++ [((48 + zB S b 0))]) ++ [((48 + zB S b 1))]) ++ [42]) ++ [((48 + zB S b 2))]) ++ [36]) ++ [((48 + zB S b 3))]) ++ [116]) ++ [((48 + zat S b))]) ++ [63])).length : Nat) : Int))]) (s2 := t21) (by rw [show t21 34 14 = _ from hl21.1]; rfl) ?_
          refine az_retI rfl rfl ?_
          have e : zq_tell S ((b : Nat) : Int) = (0, ((zline S b).length : Int)) := by unfold zq_tell; rw [if_neg (by omega)]; rfl
          have e2 := hl21
          rw [show ((((((((((((([] : List Int) ++ [((48 + ((b : Nat) : Int)))]) ++ [58]) ++ [((48 + zB S b 0))]) ++ [((48 + zB S b 1))]) ++ [42]) ++ [((48 + zB S b 2))]) ++ [36]) ++ [((48 + zB S b 3))]) ++ [116]) ++ [((48 + zat S b))]) ++ [63])) = zline S b from (by by_cases w1 : 0 ≤ zat S b <;> by_cases w2 : 0 ≤ zB S b 5 <;> first | (exfalso; omega; done) | simp [zline, *])] at e2
          rw [e]
          exact ⟨by rw [← e2.1, ← hl21.1]; rfl, by rw [hF21.2 6 (by decide)]; rfl, fun _ => e2, fun j h1 h2 => by rw [hF21.2 j h2]; simp [am_up, h1], fun i h1 h2 => by rw [hF21.1 i h1 h2]; funext b; simp [am_up, h1]⟩
      · have h19 : S 3 < zB S b 4 := h19
        refine az_to 2 (pc2 := 143) (lv2 := [some (az_r 34), some (az_i (((b : Nat) : Int)))]) (st2 := [az_i (126), az_r 34]) (s2 := t18) rfl ?_
        refine az_cl (m2 := am_m_X10_puts) (as := [az_r 34, az_i (126)]) (rest := []) 146 rfl rfl ⟨rfl, rfl⟩ (by omega) (zs_X10_puts (s := t18) (ch := 126) (by omega) hl18 (by simp)) (fun v22 t22 q22 => ?_) (fun E t22 q22 => by cases q22.1)
        obtain ⟨o22, hl22, hf22⟩ := q22
        cases o22
        refine az_to 0 (pc2 := 146) (lv2 := [some (az_r 34), some (az_i (((b : Nat) : Int)))]) (st2 := []) (s2 := t22) rfl ?_
        have hS22 : t22 35 = S := by rw [hf22.1 35 (by decide) (by decide)]; exact hS18
        have hF22 := zFM_t hF18 hf22
        refine az_to 3 (pc2 := 149) (lv2 := [some (az_r 34), some (az_i (((b : Nat) : Int)))]) (st2 := [az_i (5), az_i (((b : Nat) : Int)), az_r 34]) (s2 := t22) rfl ?_
        refine az_clv (v := some (az_i (zB S b 5))) (t := t22) (m2 := am_m_X10_of) (as := [az_r 34, az_i (((b : Nat) : Int)), az_i (5)]) (rest := []) 152 rfl rfl ⟨rfl, rfl⟩ (by omega) (zs_X10_of (s := t22) (b := b) (k := 5) (by omega) hS22 (by omega) (by omega)) ?_
        refine az_to 0 (pc2 := 152) (lv2 := [some (az_r 34), some (az_i (((b : Nat) : Int)))]) (st2 := [az_i (zB S b 5)]) (s2 := t22) rfl ?_
        refine az_ifc 161 155 rfl (by decide) (by first | assumption | exact ⟨by omega, by omega⟩) (fun h23 => ?_) (fun h23 => ?_)
        · have h23 : zB S b 5 < 0 := h23
          refine az_to 2 (pc2 := 165) (lv2 := [some (az_r 34), some (az_i (((b : Nat) : Int)))]) (st2 := [az_i (t22 34 14)]) (s2 := t22) rfl ?_
          refine az_to 0 (pc2 := 165) (lv2 := [some (az_r 34), some (az_i (((b : Nat) : Int)))]) (st2 := [az_i (((((((((((((((([] : List Int) ++ [((48 + ((b : Nat) : Int)))]) ++ [58]) ++ [((48 + zB S b 0))]) ++ [((48 + zB S b 1))]) ++ [42]) ++ [((48 + zB S b 2))]) ++ [36]) ++ [((48 + zB S b 3))]) ++ [116]) ++ [((48 + zat S b))]) ++ [126])).length : Nat) : Int))]) (s2 := t22) (by rw [show t22 34 14 = _ from hl22.1]; rfl) ?_
          refine az_retI rfl rfl ?_
          have e : zq_tell S ((b : Nat) : Int) = (0, ((zline S b).length : Int)) := by unfold zq_tell; rw [if_neg (by omega)]; rfl
          have e2 := hl22
          rw [show ((((((((((((([] : List Int) ++ [((48 + ((b : Nat) : Int)))]) ++ [58]) ++ [((48 + zB S b 0))]) ++ [((48 + zB S b 1))]) ++ [42]) ++ [((48 + zB S b 2))]) ++ [36]) ++ [((48 + zB S b 3))]) ++ [116]) ++ [((48 + zat S b))]) ++ [126])) = zline S b from (by by_cases w1 : 0 ≤ zat S b <;> by_cases w2 : 0 ≤ zB S b 5 <;> first | (exfalso; omega; done) | simp [zline, *])] at e2
          rw [e]
          exact ⟨by rw [← e2.1, ← hl22.1]; rfl, by rw [hF22.2 6 (by decide)]; rfl, fun _ => e2, fun j h1 h2 => by rw [hF22.2 j h2]; simp [am_up, h1], fun i h1 h2 => by rw [hF22.1 i h1 h2]; funext b; simp [am_up, h1]⟩
        · have h23 : ¬ (zB S b 5 < 0) := h23
          refine az_to 2 (pc2 := 158) (lv2 := [some (az_r 34), some (az_i (((b : Nat) : Int)))]) (st2 := [az_i (63), az_r 34]) (s2 := t22) rfl ?_
          refine az_cl (m2 := am_m_X10_puts) (as := [az_r 34, az_i (63)]) (rest := []) 161 rfl rfl ⟨rfl, rfl⟩ (by omega) (zs_X10_puts (s := t22) (ch := 63) (by omega) hl22 (by simp)) (fun v24 t24 q24 => ?_) (fun E t24 q24 => by cases q24.1)
          obtain ⟨o24, hl24, hf24⟩ := q24
          cases o24
          refine az_to 0 (pc2 := 161) (lv2 := [some (az_r 34), some (az_i (((b : Nat) : Int)))]) (st2 := []) (s2 := t24) rfl ?_
          have hS24 : t24 35 = S := by rw [hf24.1 35 (by decide) (by decide)]; exact hS22
          have hF24 := zFM_t hF22 hf24
          refine az_to 2 (pc2 := 165) (lv2 := [some (az_r 34), some (az_i (((b : Nat) : Int)))]) (st2 := [az_i (t24 34 14)]) (s2 := t24) rfl ?_
          refine az_to 0 (pc2 := 165) (lv2 := [some (az_r 34), some (az_i (((b : Nat) : Int)))]) (st2 := [az_i ((((((((((((((((([] : List Int) ++ [((48 + ((b : Nat) : Int)))]) ++ [58]) ++ [((48 + zB S b 0))]) ++ [((48 + zB S b 1))]) ++ [42]) ++ [((48 + zB S b 2))]) ++ [36]) ++ [((48 + zB S b 3))]) ++ [116]) ++ [((48 + zat S b))]) ++ [126]) ++ [63])).length : Nat) : Int))]) (s2 := t24) (by rw [show t24 34 14 = _ from hl24.1]; rfl) ?_
          refine az_retI rfl rfl ?_
          have e : zq_tell S ((b : Nat) : Int) = (0, ((zline S b).length : Int)) := by unfold zq_tell; rw [if_neg (by omega)]; rfl
          have e2 := hl24
          rw [show (((((((((((((([] : List Int) ++ [((48 + ((b : Nat) : Int)))]) ++ [58]) ++ [((48 + zB S b 0))]) ++ [((48 + zB S b 1))]) ++ [42]) ++ [((48 + zB S b 2))]) ++ [36]) ++ [((48 + zB S b 3))]) ++ [116]) ++ [((48 + zat S b))]) ++ [126]) ++ [63])) = zline S b from (by by_cases w1 : 0 ≤ zat S b <;> by_cases w2 : 0 ≤ zB S b 5 <;> first | (exfalso; omega; done) | simp [zline, *])] at e2
          rw [e]
          exact ⟨by rw [← e2.1, ← hl24.1]; rfl, by rw [hF24.2 6 (by decide)]; rfl, fun _ => e2, fun j h1 h2 => by rw [hF24.2 j h2]; simp [am_up, h1], fun i h1 h2 => by rw [hF24.1 i h1 h2]; funext b; simp [am_up, h1]⟩
  · have h1 : ¬ (0 ≤ zb ∧ zb < ((zn S 0 : Nat) : Int)) := h1
    refine az_to 3 (pc2 := 15) (lv2 := [some (az_r 34), some (az_i (zb))]) (st2 := [az_i (1), az_i (1), az_r 34]) (s2 := s) rfl ?_
    refine az_clv (v := some (az_i (1))) (t := am_up s 34 6 (1)) (m2 := am_m_X10_isThrown) (as := [az_r 34, az_i (1), az_i (1)]) (rest := []) 18 rfl rfl ⟨rfl, rfl⟩ (by omega) (zs_X10_isThrown_t (s := s) (v := 1) (by omega) ) ?_
    refine az_to 0 (pc2 := 18) (lv2 := [some (az_r 34), some (az_i (zb))]) (st2 := [az_i (1)]) (s2 := am_up s 34 6 (1)) rfl ?_
    refine az_ifc 23 21 rfl (by decide) ⟨by decide, by decide⟩ (fun h => absurd h (by unfold az_cnd; decide)) (fun _ => ?_)
    refine az_to 1 (pc2 := 22) (lv2 := [some (az_r 34), some (az_i (zb))]) (st2 := [az_i (0)]) (s2 := am_up s 34 6 (1)) rfl ?_
    refine az_retI rfl rfl ?_
    have e : zq_tell S zb = (1, 0) := by unfold zq_tell; rw [if_pos (by assumption)]
    rw [e]
    exact ⟨rfl, rfl, fun h => absurd (show (1 : Nat) = 0 from h) (by decide), fun j h1 h2 => by simp [am_up, h1], fun i h1 h2 => by funext b; simp [am_up, h1]⟩
