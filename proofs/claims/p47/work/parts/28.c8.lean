/-! CLASS, 8: the changes of its face; written by program (wip/tools/zg/s8.py) -/
/-- what a change of the class's face leaves -/
def zPc (s t : az_S) (q c : Nat) (r : zQ) : Prop :=
  zRel (t 3) r.2.2.2 ∧ (r.1 = 0 → t 17 1 = ((if q = 8 then 0 else q + 1 : Nat) : Int) ∧ t 17 2 = ((if c = 8 then 8 else c + 1 : Nat) : Int)) ∧ (r.1 ≠ 0 → t 17 1 = s 17 1 ∧ t 17 2 = s 17 2) ∧ t 19 = va_cpy (s 3) (s 19) 0 (q * 184) 184 ∧
  (r.1 = 3 → t 33 0 = r.2.1 ∧ t 33 1 = r.2.2.1 ∧ t 33 2 = 0 ∧ t 33 3 = 0) ∧ (r.1 ≠ 3 → t 33 = s 33) ∧ ∀ i, i ≠ 3 → i ≠ 5 → i ≠ 17 → i ≠ 19 → i ≠ 33 → t i = s i
def zout (r : zQ) : az_O := if r.1 = 0 then .inl (some (az_i r.2.1)) else .inr (if r.1 = 1 then 3 else if r.1 = 2 then 1 else 4)
abbrev zs1 (s : az_S) (q : Nat) : az_S := am_ur s 19 (va_cpy (s 3) (s 19) 0 (q * 184) 184)
theorem zPc_0 {s u : az_S} {q c : Nat} {r : zQ} (hu : zCh (zs1 s q) u r) (hk : r.1 = 0) {x y : Int} (hx : x = ((if q = 8 then 0 else q + 1 : Nat) : Int)) (hy : y = ((if c = 8 then 8 else c + 1 : Nat) : Int)) : (Sum.inl (some (az_i (u 5 1))) : az_O) = zout r ∧ zPc s (am_up (am_up u 17 1 x) 17 2 y) q c r := by
  obtain ⟨h1, h2, h3, h4, h5⟩ := hu
  refine ⟨by unfold zout; rw [if_pos hk, h3 hk], h1, fun _ => ⟨hx, hy⟩, fun w => absurd hk w, ?_, fun w => absurd (hk.symm.trans w) (by decide), fun _ => ?_, fun i i1 i2 i3 i4 i5 => ?_⟩
  · have := h5 19 (by decide) (by decide)
    show u 19 = _
    rw [this]
    rfl
  · have := h5 33 (by decide) (by decide)
    show u 33 = _
    rw [this]
    rfl
  · have := h5 i i1 i2
    funext j
    simp only [am_up, if_neg i3]
    rw [this]
    simp only [am_ur, if_neg i4]
theorem zPc_x {s u : az_S} {q c : Nat} {r : zQ} (hu : zCh (zs1 s q) u r) {k E : Nat} (hk : r.1 = k) (hE : k = 1 ∧ E = 3 ∨ k = 2 ∧ E = 1) : (Sum.inr E : az_O) = zout r ∧ zPc s u q c r := by
  obtain ⟨h1, h2, h3, h4, h5⟩ := hu
  refine ⟨?_, h1, fun w => by omega, fun w => ?_, ?_, fun w => by omega, fun _ => ?_, fun i i1 i2 i3 i4 i5 => ?_⟩
  · unfold zout
    rw [if_neg (by omega)]
    rcases hE with ⟨e1, e2⟩ | ⟨e1, e2⟩
    · rw [if_pos (by omega), e2]
    · rw [if_neg (by omega), if_pos (by omega), e2]
  · have := h5 17 (by decide) (by decide)
    rw [this]
    exact ⟨rfl, rfl⟩
  · have := h5 19 (by decide) (by decide)
    rw [this]
    rfl
  · have := h5 33 (by decide) (by decide)
    rw [this]
    rfl
  · have := h5 i i1 i2
    rw [this]
    funext j
    simp only [am_ur, if_neg i4]
theorem zPc_3 {s u : az_S} {q c : Nat} {r : zQ} (hu : zCh (zs1 s q) u r) (hk : r.1 = 3) : (Sum.inr 4 : az_O) = zout r ∧ zPc s (am_up (am_up (am_up (am_up u 33 0 (u 5 2)) 33 1 (u 5 3)) 33 2 (0)) 33 3 (0)) q c r := by
  obtain ⟨h1, h2, h3, h4, h5⟩ := hu
  refine ⟨?_, h1, fun w => by omega, fun w => ?_, ?_, fun _ => ⟨(h4 hk).1, (h4 hk).2, rfl, rfl⟩, fun w => absurd hk w, fun i i1 i2 i3 i4 i5 => ?_⟩
  · unfold zout
    rw [if_neg (by omega), if_neg (by omega), if_neg (by omega)]
  · have := h5 17 (by decide) (by decide)
    show u 17 1 = _ ∧ u 17 2 = _
    rw [this]
    exact ⟨rfl, rfl⟩
  · have := h5 19 (by decide) (by decide)
    show u 19 = _
    rw [this]
    rfl
  · have := h5 i i1 i2
    funext j
    simp only [am_up, if_neg i5]
    rw [this]
    simp only [am_ur, if_neg i4]
set_option maxRecDepth 100000 in
set_option maxHeartbeats 800000 in
theorem zs_X2_keepPrepared {d : Nat} {s : az_S} (hd : 0 ≤ d) {q c : Nat} (hp : s 17 1 = ((q : Nat) : Int)) (hq : q ≤ 8) (hc : s 17 2 = ((c : Nat) : Int)) (hc8 : c ≤ 8) : az_R d am_m_X2_keepPrepared 0 (az_ini (am_mL am_m_X2_keepPrepared) [az_r 17]) [] (s) (az_ret (none) (am_up (am_up s 17 1 ((if q = 8 then 0 else q + 1 : Nat) : Int)) 17 2 ((if c = 8 then 8 else c + 1 : Nat) : Int))) := by
  refine az_to 0 (pc2 := 0) (lv2 := [some (az_r 17)]) (st2 := []) (s2 := s) rfl ?_
  refine az_to 3 (pc2 := 5) (lv2 := [some (az_r 17)]) (st2 := [az_i (s 17 1), az_r 17]) (s2 := s) rfl ?_
  refine az_to 0 (pc2 := 5) (lv2 := [some (az_r 17)]) (st2 := [az_i (((q : Nat) : Int)), az_r 17]) (s2 := s) (by rw [show s 17 1 = ((q : Nat) : Int) from hp]; rfl) ?_
  refine az_to 1 (pc2 := 7) (lv2 := [some (az_r 17)]) (st2 := [az_i (8), az_i (((q : Nat) : Int)), az_r 17]) (s2 := s) rfl ?_
  refine az_if2 14 10 rfl (by decide) (by first | assumption | exact ⟨by omega, by omega⟩) ⟨by decide, by decide⟩ (fun h1 => ?_) (fun h1 => ?_)
  · have h1 : ¬ ((q : Nat) : Int) = 8 := h1
    refine az_to 2 (pc2 := 18) (lv2 := [some (az_r 17)]) (st2 := [az_i (s 17 1), az_r 17]) (s2 := s) rfl ?_
    refine az_to 0 (pc2 := 18) (lv2 := [some (az_r 17)]) (st2 := [az_i (((q : Nat) : Int)), az_r 17]) (s2 := s) (by rw [show s 17 1 = ((q : Nat) : Int) from hp]; rfl) ?_
    refine az_to 6 (pc2 := 28) (lv2 := [some (az_r 17)]) (st2 := [az_i ((am_up s 17 1 ((((q : Nat) : Int) + 1))) 17 2), az_r 17]) (s2 := am_up s 17 1 ((((q : Nat) : Int) + 1))) rfl ?_
    refine az_to 0 (pc2 := 28) (lv2 := [some (az_r 17)]) (st2 := [az_i (((c : Nat) : Int)), az_r 17]) (s2 := am_up s 17 1 ((((q : Nat) : Int) + 1))) (by rw [show (am_up s 17 1 ((((q : Nat) : Int) + 1))) 17 2 = ((c : Nat) : Int) from hc]; rfl) ?_
    refine az_to 3 (pc2 := 32) (lv2 := [some (az_r 17)]) (st2 := [az_i (8), az_i ((((c : Nat) : Int) + 1)), az_r 17]) (s2 := am_up s 17 1 ((((q : Nat) : Int) + 1))) rfl ?_
    refine az_min 35 rfl rfl (by decide) (by first | assumption | exact ⟨by omega, by omega⟩) ⟨by decide, by decide⟩ ?_
    refine az_to 1 (pc2 := 38) (lv2 := [some (az_r 17)]) (st2 := []) (s2 := am_up (am_up s 17 1 ((((q : Nat) : Int) + 1))) 17 2 ((if 8 < (((c : Nat) : Int) + 1) then 8 else (((c : Nat) : Int) + 1)))) rfl ?_
    refine az_ret0 rfl rfl ?_
    refine ⟨rfl, ?_⟩
    have e1 : (if 8 < ((c : Nat) : Int) + 1 then (8 : Int) else ((c : Nat) : Int) + 1) = ((if c = 8 then 8 else c + 1 : Nat) : Int) := by split <;> split <;> omega
    rw [← e1]
    rw [if_neg (by omega : ¬ q = 8)]; rfl
  · have h1 : ((q : Nat) : Int) = 8 := Decidable.not_not.mp h1
    refine az_to 6 (pc2 := 28) (lv2 := [some (az_r 17)]) (st2 := [az_i ((am_up s 17 1 (0)) 17 2), az_r 17]) (s2 := am_up s 17 1 (0)) rfl ?_
    refine az_to 0 (pc2 := 28) (lv2 := [some (az_r 17)]) (st2 := [az_i (((c : Nat) : Int)), az_r 17]) (s2 := am_up s 17 1 (0)) (by rw [show (am_up s 17 1 (0)) 17 2 = ((c : Nat) : Int) from hc]; rfl) ?_
    refine az_to 3 (pc2 := 32) (lv2 := [some (az_r 17)]) (st2 := [az_i (8), az_i ((((c : Nat) : Int) + 1)), az_r 17]) (s2 := am_up s 17 1 (0)) rfl ?_
    refine az_min 35 rfl rfl (by decide) (by first | assumption | exact ⟨by omega, by omega⟩) ⟨by decide, by decide⟩ ?_
    refine az_to 1 (pc2 := 38) (lv2 := [some (az_r 17)]) (st2 := []) (s2 := am_up (am_up s 17 1 (0)) 17 2 ((if 8 < (((c : Nat) : Int) + 1) then 8 else (((c : Nat) : Int) + 1)))) rfl ?_
    refine az_ret0 rfl rfl ?_
    refine ⟨rfl, ?_⟩
    have e1 : (if 8 < ((c : Nat) : Int) + 1 then (8 : Int) else ((c : Nat) : Int) + 1) = ((if c = 8 then 8 else c + 1 : Nat) : Int) := by split <;> split <;> omega
    rw [← e1]
    rw [if_pos (by omega : q = 8)]; rfl
set_option maxRecDepth 100000 in
set_option maxHeartbeats 800000 in
theorem zs_X9_conclude_0 {d : Nat} {s : az_S} (hd : 2 ≤ d) {q c : Nat} (hp : s 17 1 = ((q : Nat) : Int)) (hq : q ≤ 8) (hc : s 17 2 = ((c : Nat) : Int)) (hc8 : c ≤ 8) (hk : s 5 0 = 0) : az_R d am_m_X9_conclude 0 (az_ini (am_mL am_m_X9_conclude) [az_r 0, az_r 5]) [] (s) (az_ret (some (az_i (s 5 1))) (am_up (am_up s 17 1 ((if q = 8 then 0 else q + 1 : Nat) : Int)) 17 2 ((if c = 8 then 8 else c + 1 : Nat) : Int))) := by
  refine az_to 0 (pc2 := 0) (lv2 := [some (az_r 0), some (az_r 5)]) (st2 := []) (s2 := s) rfl ?_
  refine az_to 2 (pc2 := 4) (lv2 := [some (az_r 0), some (az_r 5)]) (st2 := [az_i (s 5 0)]) (s2 := s) rfl ?_
  refine az_to 0 (pc2 := 4) (lv2 := [some (az_r 0), some (az_r 5)]) (st2 := [az_i (0)]) (s2 := s) (by rw [hk]; rfl) ?_
  refine az_swd 73 rfl ⟨by decide, by decide⟩ (by decide) (by decide) ?_
  refine az_to 2 (pc2 := 77) (lv2 := [some (az_r 0), some (az_r 5)]) (st2 := [az_r 17]) (s2 := s) rfl ?_
  refine az_clv (v := none) (t := am_up (am_up s 17 1 ((if q = 8 then 0 else q + 1 : Nat) : Int)) 17 2 ((if c = 8 then 8 else c + 1 : Nat) : Int)) (m2 := am_m_X2_keepPrepared) (as := [az_r 17]) (rest := []) 80 rfl rfl ⟨rfl, rfl⟩ (by omega) (zs_X2_keepPrepared (s := s)  (by omega) hp hq hc hc8) ?_
  refine az_to 0 (pc2 := 80) (lv2 := [some (az_r 0), some (az_r 5)]) (st2 := []) (s2 := am_up (am_up s 17 1 ((if q = 8 then 0 else q + 1 : Nat) : Int)) 17 2 ((if c = 8 then 8 else c + 1 : Nat) : Int)) rfl ?_
  refine az_to 2 (pc2 := 84) (lv2 := [some (az_r 0), some (az_r 5)]) (st2 := [az_i ((am_up (am_up s 17 1 ((if q = 8 then 0 else q + 1 : Nat) : Int)) 17 2 ((if c = 8 then 8 else c + 1 : Nat) : Int)) 5 1)]) (s2 := am_up (am_up s 17 1 ((if q = 8 then 0 else q + 1 : Nat) : Int)) 17 2 ((if c = 8 then 8 else c + 1 : Nat) : Int)) rfl ?_
  refine az_retI rfl rfl ?_
  exact ⟨rfl, rfl⟩
set_option maxRecDepth 100000 in
set_option maxHeartbeats 800000 in
theorem zs_X9_conclude_1 {d : Nat} {s : az_S} (hd : 2 ≤ d) {q c : Nat} (hp : s 17 1 = ((q : Nat) : Int)) (hq : q ≤ 8) (hc : s 17 2 = ((c : Nat) : Int)) (hc8 : c ≤ 8) (hk : s 5 0 = 1) : az_R d am_m_X9_conclude 0 (az_ini (am_mL am_m_X9_conclude) [az_r 0, az_r 5]) [] (s) (fun o t => o = .inr 3 ∧ t = s) := by
  refine az_to 0 (pc2 := 0) (lv2 := [some (az_r 0), some (az_r 5)]) (st2 := []) (s2 := s) rfl ?_
  refine az_to 2 (pc2 := 4) (lv2 := [some (az_r 0), some (az_r 5)]) (st2 := [az_i (s 5 0)]) (s2 := s) rfl ?_
  refine az_to 0 (pc2 := 4) (lv2 := [some (az_r 0), some (az_r 5)]) (st2 := [az_i (1)]) (s2 := s) (by rw [hk]; rfl) ?_
  refine az_swc 32 rfl ⟨by decide, by decide⟩ (by decide) (by rfl) (by decide) ?_
  refine az_thr (E := 3) rfl rfl rfl ?_
  exact ⟨rfl, rfl⟩
set_option maxRecDepth 100000 in
set_option maxHeartbeats 800000 in
theorem zs_X9_conclude_2 {d : Nat} {s : az_S} (hd : 2 ≤ d) {q c : Nat} (hp : s 17 1 = ((q : Nat) : Int)) (hq : q ≤ 8) (hc : s 17 2 = ((c : Nat) : Int)) (hc8 : c ≤ 8) (hk : s 5 0 = 2) : az_R d am_m_X9_conclude 0 (az_ini (am_mL am_m_X9_conclude) [az_r 0, az_r 5]) [] (s) (fun o t => o = .inr 1 ∧ t = s) := by
  refine az_to 0 (pc2 := 0) (lv2 := [some (az_r 0), some (az_r 5)]) (st2 := []) (s2 := s) rfl ?_
  refine az_to 2 (pc2 := 4) (lv2 := [some (az_r 0), some (az_r 5)]) (st2 := [az_i (s 5 0)]) (s2 := s) rfl ?_
  refine az_to 0 (pc2 := 4) (lv2 := [some (az_r 0), some (az_r 5)]) (st2 := [az_i (2)]) (s2 := s) (by rw [hk]; rfl) ?_
  refine az_swc 43 rfl ⟨by decide, by decide⟩ (by decide) (by rfl) (by decide) ?_
  refine az_thr (E := 1) rfl rfl rfl ?_
  exact ⟨rfl, rfl⟩
set_option maxRecDepth 100000 in
set_option maxHeartbeats 800000 in
theorem zs_X9_conclude_3 {d : Nat} {s : az_S} (hd : 2 ≤ d) {q c : Nat} (hp : s 17 1 = ((q : Nat) : Int)) (hq : q ≤ 8) (hc : s 17 2 = ((c : Nat) : Int)) (hc8 : c ≤ 8) (hk : s 5 0 = 3) : az_R d am_m_X9_conclude 0 (az_ini (am_mL am_m_X9_conclude) [az_r 0, az_r 5]) [] (s) (fun o t => o = .inr 4 ∧ t = am_up (am_up (am_up (am_up s 33 0 (s 5 2)) 33 1 (s 5 3)) 33 2 (0)) 33 3 (0)) := by
  refine az_to 0 (pc2 := 0) (lv2 := [some (az_r 0), some (az_r 5)]) (st2 := []) (s2 := s) rfl ?_
  refine az_to 2 (pc2 := 4) (lv2 := [some (az_r 0), some (az_r 5)]) (st2 := [az_i (s 5 0)]) (s2 := s) rfl ?_
  refine az_to 0 (pc2 := 4) (lv2 := [some (az_r 0), some (az_r 5)]) (st2 := [az_i (3)]) (s2 := s) (by rw [hk]; rfl) ?_
  refine az_swc 54 rfl ⟨by decide, by decide⟩ (by decide) (by rfl) (by decide) ?_
  refine az_to 3 (pc2 := 59) (lv2 := [some (az_r 0), some (az_r 5)]) (st2 := [az_r 5, az_r 33]) (s2 := s) rfl ?_
  refine az_clv (v := none) (t := am_up (am_up (am_up (am_up s 33 0 (s 5 2)) 33 1 (s 5 3)) 33 2 (0)) 33 3 (0)) (m2 := am_m_X4_keep) (as := [az_r 33, az_r 5]) (rest := []) 62 rfl rfl ⟨rfl, rfl⟩ (by omega) (zs_X4_keep (s := s)  (by omega) ) ?_
  refine az_to 0 (pc2 := 62) (lv2 := [some (az_r 0), some (az_r 5)]) (st2 := []) (s2 := am_up (am_up (am_up (am_up s 33 0 (s 5 2)) 33 1 (s 5 3)) 33 2 (0)) 33 3 (0)) rfl ?_
  refine az_thr (E := 4) rfl rfl rfl ?_
  exact ⟨rfl, rfl⟩
set_option maxRecDepth 100000 in
set_option maxHeartbeats 800000 in
theorem zs_X9_bridge {d : Nat} {s : az_S} (hd : 6 ≤ d) {S : zR} {h : Nat} (hR : zRel (s 3) S) (hI : zInv S h) (hh : h ≤ 10000) (hh9 : h + 1 ≤ 10000) {q c : Nat} (hp : s 17 1 = ((q : Nat) : Int)) (hq : q ≤ 8) (hc : s 17 2 = ((c : Nat) : Int)) (hc8 : c ≤ 8) {zo : Int} {zp : Int} {zq : Int} {zr : Int} (h_zo : az_in zo) (h_zp : az_in zp) (h_zq : az_in zq) (h_zr : az_in zr) : az_R d am_m_X9_bridge 0 (az_ini (am_mL am_m_X9_bridge) [az_r 0, az_i (zo), az_i (zp), az_i (zq), az_i (zr)]) [] (s) (fun o t => o = zout (zo_bridge S zo zp zq zr) ∧ zPc s t q c (zo_bridge S zo zp zq zr)) := by
  have hRs : zRel (zs1 s q 3) S := hR
  refine az_to 0 (pc2 := 0) (lv2 := [some (az_r 0), some (az_i (zo)), some (az_i (zp)), some (az_i (zq)), some (az_i (zr))]) (st2 := []) (s2 := s) rfl ?_
  refine az_to 4 (pc2 := 8) (lv2 := [some (az_r 0), some (az_i (zo)), some (az_i (zp)), some (az_i (zq)), some (az_i (zr))]) (st2 := [az_r 1, az_r 17]) (s2 := s) rfl ?_
  refine az_clv (v := none) (t := am_ur s 19 (va_cpy (s 3) (s 19) 0 (q * 184) 184)) (m2 := am_m_X2_prepare) (as := [az_r 17, az_r 1]) (rest := []) 11 rfl rfl ⟨rfl, rfl⟩ (by omega) (zs_X2_prepare (s := s)  (by omega) hp hq) ?_
  refine az_to 0 (pc2 := 11) (lv2 := [some (az_r 0), some (az_i (zo)), some (az_i (zp)), some (az_i (zq)), some (az_i (zr))]) (st2 := []) (s2 := am_ur s 19 (va_cpy (s 3) (s 19) 0 (q * 184) 184)) rfl ?_
  refine az_to 7 (pc2 := 21) (lv2 := [some (az_r 0), some (az_i (zo)), some (az_i (zp)), some (az_i (zq)), some (az_i (zr))]) (st2 := [az_i (zr), az_i (zq), az_i (zp), az_i (zo), az_r 4, az_r 0]) (s2 := am_ur s 19 (va_cpy (s 3) (s 19) 0 (q * 184) 184)) rfl ?_
  refine az_cl (m2 := am_m_X0_addBridge) (as := [az_r 4, az_i (zo), az_i (zp), az_i (zq), az_i (zr)]) (rest := [az_r 0]) 24 rfl rfl ⟨rfl, rfl⟩ (by omega) (zs_X0_addBridge (s := am_ur s 19 (va_cpy (s 3) (s 19) 0 (q * 184) 184)) (zo := zo) (zp := zp) (zq := zq) (zr := zr) (by omega) hRs hI hh (by first | assumption | exact ⟨by omega, by omega⟩) (by first | assumption | exact ⟨by omega, by omega⟩) (by first | assumption | exact ⟨by omega, by omega⟩) (by first | assumption | exact ⟨by omega, by omega⟩)) (fun v1 u q1 => ?_) (fun E u q1 => by cases q1.1)
  obtain ⟨o1, hu⟩ := q1
  cases o1
  have hpu : u 17 1 = ((q : Nat) : Int) := by rw [hu.2.2.2.2 17 (by decide) (by decide)]; exact hp
  have hcu : u 17 2 = ((c : Nat) : Int) := by rw [hu.2.2.2.2 17 (by decide) (by decide)]; exact hc
  refine az_to 0 (pc2 := 24) (lv2 := [some (az_r 0), some (az_i (zo)), some (az_i (zp)), some (az_i (zq)), some (az_i (zr))]) (st2 := [az_r 5, az_r 0]) (s2 := u) rfl ?_
  have hr : (zo_bridge S zo zp zq zr).1 = 0 ∨ (zo_bridge S zo zp zq zr).1 = 1 ∨ (zo_bridge S zo zp zq zr).1 = 2 ∨ (zo_bridge S zo zp zq zr).1 = 3 := by unfold zo_bridge; repeat (first | exact Or.inl rfl | exact Or.inr (Or.inl rfl) | exact Or.inr (Or.inr (Or.inl rfl)) | exact Or.inr (Or.inr (Or.inr rfl)) | split)
  rcases hr with hr | hr | hr | hr
  · have hku : u 5 0 = 0 := by rw [hu.2.1, hr]; rfl
    refine az_clv (v := some (az_i (u 5 1))) (t := am_up (am_up u 17 1 ((if q = 8 then 0 else q + 1 : Nat) : Int)) 17 2 ((if c = 8 then 8 else c + 1 : Nat) : Int)) (m2 := am_m_X9_conclude) (as := [az_r 0, az_r 5]) (rest := []) 27 rfl rfl ⟨rfl, rfl⟩ (by omega) (zs_X9_conclude_0 (s := u) (by omega) hpu hq hcu hc8 hku) ?_
    refine az_retI rfl rfl ?_
    exact zPc_0 hu hr rfl rfl
  · have hku : u 5 0 = 1 := by rw [hu.2.1, hr]; rfl
    refine az_cl (m2 := am_m_X9_conclude) (as := [az_r 0, az_r 5]) (rest := []) 27 rfl rfl ⟨rfl, rfl⟩ (by omega) (zs_X9_conclude_1 (s := u) (by omega) hpu hq hcu hc8 hku) (fun v t q9 => by cases q9.1) (fun E9 t q9 => ?_)
    obtain ⟨q8, q9⟩ := q9
    cases q8
    rw [q9]
    exact zPc_x hu hr (by omega)
  · have hku : u 5 0 = 2 := by rw [hu.2.1, hr]; rfl
    refine az_cl (m2 := am_m_X9_conclude) (as := [az_r 0, az_r 5]) (rest := []) 27 rfl rfl ⟨rfl, rfl⟩ (by omega) (zs_X9_conclude_2 (s := u) (by omega) hpu hq hcu hc8 hku) (fun v t q9 => by cases q9.1) (fun E9 t q9 => ?_)
    obtain ⟨q8, q9⟩ := q9
    cases q8
    rw [q9]
    exact zPc_x hu hr (by omega)
  · have hku : u 5 0 = 3 := by rw [hu.2.1, hr]; rfl
    refine az_cl (m2 := am_m_X9_conclude) (as := [az_r 0, az_r 5]) (rest := []) 27 rfl rfl ⟨rfl, rfl⟩ (by omega) (zs_X9_conclude_3 (s := u) (by omega) hpu hq hcu hc8 hku) (fun v t q9 => by cases q9.1) (fun E9 t q9 => ?_)
    obtain ⟨q8, q9⟩ := q9
    cases q8
    rw [q9]
    exact zPc_3 hu hr
set_option maxRecDepth 100000 in
set_option maxHeartbeats 800000 in
theorem zs_X9_troll {d : Nat} {s : az_S} (hd : 6 ≤ d) {S : zR} {h : Nat} (hR : zRel (s 3) S) (hI : zInv S h) (hh : h ≤ 10000) (hh9 : h + 1 ≤ 10000) {q c : Nat} (hp : s 17 1 = ((q : Nat) : Int)) (hq : q ≤ 8) (hc : s 17 2 = ((c : Nat) : Int)) (hc8 : c ≤ 8)   : az_R d am_m_X9_troll 0 (az_ini (am_mL am_m_X9_troll) [az_r 0]) [] (s) (fun o t => o = zout (zo_troll S ) ∧ zPc s t q c (zo_troll S )) := by
  have hRs : zRel (zs1 s q 3) S := hR
  refine az_to 0 (pc2 := 0) (lv2 := [some (az_r 0)]) (st2 := []) (s2 := s) rfl ?_
  refine az_to 4 (pc2 := 8) (lv2 := [some (az_r 0)]) (st2 := [az_r 1, az_r 17]) (s2 := s) rfl ?_
  refine az_clv (v := none) (t := am_ur s 19 (va_cpy (s 3) (s 19) 0 (q * 184) 184)) (m2 := am_m_X2_prepare) (as := [az_r 17, az_r 1]) (rest := []) 11 rfl rfl ⟨rfl, rfl⟩ (by omega) (zs_X2_prepare (s := s)  (by omega) hp hq) ?_
  refine az_to 0 (pc2 := 11) (lv2 := [some (az_r 0)]) (st2 := []) (s2 := am_ur s 19 (va_cpy (s 3) (s 19) 0 (q * 184) 184)) rfl ?_
  refine az_to 3 (pc2 := 16) (lv2 := [some (az_r 0)]) (st2 := [az_r 4, az_r 0]) (s2 := am_ur s 19 (va_cpy (s 3) (s 19) 0 (q * 184) 184)) rfl ?_
  refine az_cl (m2 := am_m_X0_addTroll) (as := [az_r 4]) (rest := [az_r 0]) 19 rfl rfl ⟨rfl, rfl⟩ (by omega) (zs_X0_addTroll (s := am_ur s 19 (va_cpy (s 3) (s 19) 0 (q * 184) 184))  (by omega) hRs hI hh) (fun v1 u q1 => ?_) (fun E u q1 => by cases q1.1)
  obtain ⟨o1, hu⟩ := q1
  cases o1
  have hpu : u 17 1 = ((q : Nat) : Int) := by rw [hu.2.2.2.2 17 (by decide) (by decide)]; exact hp
  have hcu : u 17 2 = ((c : Nat) : Int) := by rw [hu.2.2.2.2 17 (by decide) (by decide)]; exact hc
  refine az_to 0 (pc2 := 19) (lv2 := [some (az_r 0)]) (st2 := [az_r 5, az_r 0]) (s2 := u) rfl ?_
  have hr : (zo_troll S ).1 = 0 ∨ (zo_troll S ).1 = 1 ∨ (zo_troll S ).1 = 2 ∨ (zo_troll S ).1 = 3 := by unfold zo_troll; repeat (first | exact Or.inl rfl | exact Or.inr (Or.inl rfl) | exact Or.inr (Or.inr (Or.inl rfl)) | exact Or.inr (Or.inr (Or.inr rfl)) | split)
  rcases hr with hr | hr | hr | hr
  · have hku : u 5 0 = 0 := by rw [hu.2.1, hr]; rfl
    refine az_clv (v := some (az_i (u 5 1))) (t := am_up (am_up u 17 1 ((if q = 8 then 0 else q + 1 : Nat) : Int)) 17 2 ((if c = 8 then 8 else c + 1 : Nat) : Int)) (m2 := am_m_X9_conclude) (as := [az_r 0, az_r 5]) (rest := []) 22 rfl rfl ⟨rfl, rfl⟩ (by omega) (zs_X9_conclude_0 (s := u) (by omega) hpu hq hcu hc8 hku) ?_
    refine az_retI rfl rfl ?_
    exact zPc_0 hu hr rfl rfl
  · have hku : u 5 0 = 1 := by rw [hu.2.1, hr]; rfl
    refine az_cl (m2 := am_m_X9_conclude) (as := [az_r 0, az_r 5]) (rest := []) 22 rfl rfl ⟨rfl, rfl⟩ (by omega) (zs_X9_conclude_1 (s := u) (by omega) hpu hq hcu hc8 hku) (fun v t q9 => by cases q9.1) (fun E9 t q9 => ?_)
    obtain ⟨q8, q9⟩ := q9
    cases q8
    rw [q9]
    exact zPc_x hu hr (by omega)
  · have hku : u 5 0 = 2 := by rw [hu.2.1, hr]; rfl
    refine az_cl (m2 := am_m_X9_conclude) (as := [az_r 0, az_r 5]) (rest := []) 22 rfl rfl ⟨rfl, rfl⟩ (by omega) (zs_X9_conclude_2 (s := u) (by omega) hpu hq hcu hc8 hku) (fun v t q9 => by cases q9.1) (fun E9 t q9 => ?_)
    obtain ⟨q8, q9⟩ := q9
    cases q8
    rw [q9]
    exact zPc_x hu hr (by omega)
  · have hku : u 5 0 = 3 := by rw [hu.2.1, hr]; rfl
    refine az_cl (m2 := am_m_X9_conclude) (as := [az_r 0, az_r 5]) (rest := []) 22 rfl rfl ⟨rfl, rfl⟩ (by omega) (zs_X9_conclude_3 (s := u) (by omega) hpu hq hcu hc8 hku) (fun v t q9 => by cases q9.1) (fun E9 t q9 => ?_)
    obtain ⟨q8, q9⟩ := q9
    cases q8
    rw [q9]
    exact zPc_3 hu hr
set_option maxRecDepth 100000 in
set_option maxHeartbeats 800000 in
theorem zs_X9_goat {d : Nat} {s : az_S} (hd : 6 ≤ d) {S : zR} {h : Nat} (hR : zRel (s 3) S) (hI : zInv S h) (hh : h ≤ 10000) (hh9 : h + 1 ≤ 10000) {q c : Nat} (hp : s 17 1 = ((q : Nat) : Int)) (hq : q ≤ 8) (hc : s 17 2 = ((c : Nat) : Int)) (hc8 : c ≤ 8) {zl : Int} {zc : Int} (h_zl : az_in zl) (h_zc : az_in zc) : az_R d am_m_X9_goat 0 (az_ini (am_mL am_m_X9_goat) [az_r 0, az_i (zl), az_i (zc)]) [] (s) (fun o t => o = zout (zo_goat S zl zc) ∧ zPc s t q c (zo_goat S zl zc)) := by
  have hRs : zRel (zs1 s q 3) S := hR
  refine az_to 0 (pc2 := 0) (lv2 := [some (az_r 0), some (az_i (zl)), some (az_i (zc))]) (st2 := []) (s2 := s) rfl ?_
  refine az_to 4 (pc2 := 8) (lv2 := [some (az_r 0), some (az_i (zl)), some (az_i (zc))]) (st2 := [az_r 1, az_r 17]) (s2 := s) rfl ?_
  refine az_clv (v := none) (t := am_ur s 19 (va_cpy (s 3) (s 19) 0 (q * 184) 184)) (m2 := am_m_X2_prepare) (as := [az_r 17, az_r 1]) (rest := []) 11 rfl rfl ⟨rfl, rfl⟩ (by omega) (zs_X2_prepare (s := s)  (by omega) hp hq) ?_
  refine az_to 0 (pc2 := 11) (lv2 := [some (az_r 0), some (az_i (zl)), some (az_i (zc))]) (st2 := []) (s2 := am_ur s 19 (va_cpy (s 3) (s 19) 0 (q * 184) 184)) rfl ?_
  refine az_to 5 (pc2 := 18) (lv2 := [some (az_r 0), some (az_i (zl)), some (az_i (zc))]) (st2 := [az_i (zc), az_i (zl), az_r 4, az_r 0]) (s2 := am_ur s 19 (va_cpy (s 3) (s 19) 0 (q * 184) 184)) rfl ?_
  refine az_cl (m2 := am_m_X0_addGoat) (as := [az_r 4, az_i (zl), az_i (zc)]) (rest := [az_r 0]) 21 rfl rfl ⟨rfl, rfl⟩ (by omega) (zs_X0_addGoat (s := am_ur s 19 (va_cpy (s 3) (s 19) 0 (q * 184) 184)) (zl := zl) (zc := zc) (by omega) hRs hI hh (by first | assumption | exact ⟨by omega, by omega⟩) (by first | assumption | exact ⟨by omega, by omega⟩)) (fun v1 u q1 => ?_) (fun E u q1 => by cases q1.1)
  obtain ⟨o1, hu⟩ := q1
  cases o1
  have hpu : u 17 1 = ((q : Nat) : Int) := by rw [hu.2.2.2.2 17 (by decide) (by decide)]; exact hp
  have hcu : u 17 2 = ((c : Nat) : Int) := by rw [hu.2.2.2.2 17 (by decide) (by decide)]; exact hc
  refine az_to 0 (pc2 := 21) (lv2 := [some (az_r 0), some (az_i (zl)), some (az_i (zc))]) (st2 := [az_r 5, az_r 0]) (s2 := u) rfl ?_
  have hr : (zo_goat S zl zc).1 = 0 ∨ (zo_goat S zl zc).1 = 1 ∨ (zo_goat S zl zc).1 = 2 ∨ (zo_goat S zl zc).1 = 3 := by unfold zo_goat; repeat (first | exact Or.inl rfl | exact Or.inr (Or.inl rfl) | exact Or.inr (Or.inr (Or.inl rfl)) | exact Or.inr (Or.inr (Or.inr rfl)) | split)
  rcases hr with hr | hr | hr | hr
  · have hku : u 5 0 = 0 := by rw [hu.2.1, hr]; rfl
    refine az_clv (v := some (az_i (u 5 1))) (t := am_up (am_up u 17 1 ((if q = 8 then 0 else q + 1 : Nat) : Int)) 17 2 ((if c = 8 then 8 else c + 1 : Nat) : Int)) (m2 := am_m_X9_conclude) (as := [az_r 0, az_r 5]) (rest := []) 24 rfl rfl ⟨rfl, rfl⟩ (by omega) (zs_X9_conclude_0 (s := u) (by omega) hpu hq hcu hc8 hku) ?_
    refine az_retI rfl rfl ?_
    exact zPc_0 hu hr rfl rfl
  · have hku : u 5 0 = 1 := by rw [hu.2.1, hr]; rfl
    refine az_cl (m2 := am_m_X9_conclude) (as := [az_r 0, az_r 5]) (rest := []) 24 rfl rfl ⟨rfl, rfl⟩ (by omega) (zs_X9_conclude_1 (s := u) (by omega) hpu hq hcu hc8 hku) (fun v t q9 => by cases q9.1) (fun E9 t q9 => ?_)
    obtain ⟨q8, q9⟩ := q9
    cases q8
    rw [q9]
    exact zPc_x hu hr (by omega)
  · have hku : u 5 0 = 2 := by rw [hu.2.1, hr]; rfl
    refine az_cl (m2 := am_m_X9_conclude) (as := [az_r 0, az_r 5]) (rest := []) 24 rfl rfl ⟨rfl, rfl⟩ (by omega) (zs_X9_conclude_2 (s := u) (by omega) hpu hq hcu hc8 hku) (fun v t q9 => by cases q9.1) (fun E9 t q9 => ?_)
    obtain ⟨q8, q9⟩ := q9
    cases q8
    rw [q9]
    exact zPc_x hu hr (by omega)
  · have hku : u 5 0 = 3 := by rw [hu.2.1, hr]; rfl
    refine az_cl (m2 := am_m_X9_conclude) (as := [az_r 0, az_r 5]) (rest := []) 24 rfl rfl ⟨rfl, rfl⟩ (by omega) (zs_X9_conclude_3 (s := u) (by omega) hpu hq hcu hc8 hku) (fun v t q9 => by cases q9.1) (fun E9 t q9 => ?_)
    obtain ⟨q8, q9⟩ := q9
    cases q8
    rw [q9]
    exact zPc_3 hu hr
set_option maxRecDepth 100000 in
set_option maxHeartbeats 800000 in
theorem zs_X9_post {d : Nat} {s : az_S} (hd : 6 ≤ d) {S : zR} {h : Nat} (hR : zRel (s 3) S) (hI : zInv S h) (hh : h ≤ 10000) (hh9 : h + 1 ≤ 10000) {q c : Nat} (hp : s 17 1 = ((q : Nat) : Int)) (hq : q ≤ 8) (hc : s 17 2 = ((c : Nat) : Int)) (hc8 : c ≤ 8) {zt : Int} {zb : Int} (h_zt : az_in zt) (h_zb : az_in zb) : az_R d am_m_X9_post 0 (az_ini (am_mL am_m_X9_post) [az_r 0, az_i (zt), az_i (zb)]) [] (s) (fun o t => o = zout (zo_post S zt zb) ∧ zPc s t q c (zo_post S zt zb)) := by
  have hRs : zRel (zs1 s q 3) S := hR
  refine az_to 0 (pc2 := 0) (lv2 := [some (az_r 0), some (az_i (zt)), some (az_i (zb))]) (st2 := []) (s2 := s) rfl ?_
  refine az_to 4 (pc2 := 8) (lv2 := [some (az_r 0), some (az_i (zt)), some (az_i (zb))]) (st2 := [az_r 1, az_r 17]) (s2 := s) rfl ?_
  refine az_clv (v := none) (t := am_ur s 19 (va_cpy (s 3) (s 19) 0 (q * 184) 184)) (m2 := am_m_X2_prepare) (as := [az_r 17, az_r 1]) (rest := []) 11 rfl rfl ⟨rfl, rfl⟩ (by omega) (zs_X2_prepare (s := s)  (by omega) hp hq) ?_
  refine az_to 0 (pc2 := 11) (lv2 := [some (az_r 0), some (az_i (zt)), some (az_i (zb))]) (st2 := []) (s2 := am_ur s 19 (va_cpy (s 3) (s 19) 0 (q * 184) 184)) rfl ?_
  refine az_to 5 (pc2 := 18) (lv2 := [some (az_r 0), some (az_i (zt)), some (az_i (zb))]) (st2 := [az_i (zb), az_i (zt), az_r 4, az_r 0]) (s2 := am_ur s 19 (va_cpy (s 3) (s 19) 0 (q * 184) 184)) rfl ?_
  refine az_cl (m2 := am_m_X0_postTroll) (as := [az_r 4, az_i (zt), az_i (zb)]) (rest := [az_r 0]) 21 rfl rfl ⟨rfl, rfl⟩ (by omega) (zs_X0_postTroll (s := am_ur s 19 (va_cpy (s 3) (s 19) 0 (q * 184) 184)) (zt := zt) (zb := zb) (by omega) hRs hI hh (by first | assumption | exact ⟨by omega, by omega⟩) (by first | assumption | exact ⟨by omega, by omega⟩)) (fun v1 u q1 => ?_) (fun E u q1 => by cases q1.1)
  obtain ⟨o1, hu⟩ := q1
  cases o1
  have hpu : u 17 1 = ((q : Nat) : Int) := by rw [hu.2.2.2.2 17 (by decide) (by decide)]; exact hp
  have hcu : u 17 2 = ((c : Nat) : Int) := by rw [hu.2.2.2.2 17 (by decide) (by decide)]; exact hc
  refine az_to 0 (pc2 := 21) (lv2 := [some (az_r 0), some (az_i (zt)), some (az_i (zb))]) (st2 := [az_r 5, az_r 0]) (s2 := u) rfl ?_
  have hr : (zo_post S zt zb).1 = 0 ∨ (zo_post S zt zb).1 = 1 ∨ (zo_post S zt zb).1 = 2 ∨ (zo_post S zt zb).1 = 3 := by unfold zo_post; repeat (first | exact Or.inl rfl | exact Or.inr (Or.inl rfl) | exact Or.inr (Or.inr (Or.inl rfl)) | exact Or.inr (Or.inr (Or.inr rfl)) | split)
  rcases hr with hr | hr | hr | hr
  · have hku : u 5 0 = 0 := by rw [hu.2.1, hr]; rfl
    refine az_clv (v := some (az_i (u 5 1))) (t := am_up (am_up u 17 1 ((if q = 8 then 0 else q + 1 : Nat) : Int)) 17 2 ((if c = 8 then 8 else c + 1 : Nat) : Int)) (m2 := am_m_X9_conclude) (as := [az_r 0, az_r 5]) (rest := []) 24 rfl rfl ⟨rfl, rfl⟩ (by omega) (zs_X9_conclude_0 (s := u) (by omega) hpu hq hcu hc8 hku) ?_
    refine az_retI rfl rfl ?_
    exact zPc_0 hu hr rfl rfl
  · have hku : u 5 0 = 1 := by rw [hu.2.1, hr]; rfl
    refine az_cl (m2 := am_m_X9_conclude) (as := [az_r 0, az_r 5]) (rest := []) 24 rfl rfl ⟨rfl, rfl⟩ (by omega) (zs_X9_conclude_1 (s := u) (by omega) hpu hq hcu hc8 hku) (fun v t q9 => by cases q9.1) (fun E9 t q9 => ?_)
    obtain ⟨q8, q9⟩ := q9
    cases q8
    rw [q9]
    exact zPc_x hu hr (by omega)
  · have hku : u 5 0 = 2 := by rw [hu.2.1, hr]; rfl
    refine az_cl (m2 := am_m_X9_conclude) (as := [az_r 0, az_r 5]) (rest := []) 24 rfl rfl ⟨rfl, rfl⟩ (by omega) (zs_X9_conclude_2 (s := u) (by omega) hpu hq hcu hc8 hku) (fun v t q9 => by cases q9.1) (fun E9 t q9 => ?_)
    obtain ⟨q8, q9⟩ := q9
    cases q8
    rw [q9]
    exact zPc_x hu hr (by omega)
  · have hku : u 5 0 = 3 := by rw [hu.2.1, hr]; rfl
    refine az_cl (m2 := am_m_X9_conclude) (as := [az_r 0, az_r 5]) (rest := []) 24 rfl rfl ⟨rfl, rfl⟩ (by omega) (zs_X9_conclude_3 (s := u) (by omega) hpu hq hcu hc8 hku) (fun v t q9 => by cases q9.1) (fun E9 t q9 => ?_)
    obtain ⟨q8, q9⟩ := q9
    cases q8
    rw [q9]
    exact zPc_3 hu hr
set_option maxRecDepth 100000 in
set_option maxHeartbeats 800000 in
theorem zs_X9_leave {d : Nat} {s : az_S} (hd : 6 ≤ d) {S : zR} {h : Nat} (hR : zRel (s 3) S) (hI : zInv S h) (hh : h ≤ 10000) (hh9 : h + 1 ≤ 10000) {q c : Nat} (hp : s 17 1 = ((q : Nat) : Int)) (hq : q ≤ 8) (hc : s 17 2 = ((c : Nat) : Int)) (hc8 : c ≤ 8) {zt : Int} (h_zt : az_in zt) : az_R d am_m_X9_leave 0 (az_ini (am_mL am_m_X9_leave) [az_r 0, az_i (zt)]) [] (s) (fun o t => o = zout (zo_leave S zt) ∧ zPc s t q c (zo_leave S zt)) := by
  have hRs : zRel (zs1 s q 3) S := hR
  refine az_to 0 (pc2 := 0) (lv2 := [some (az_r 0), some (az_i (zt))]) (st2 := []) (s2 := s) rfl ?_
  refine az_to 4 (pc2 := 8) (lv2 := [some (az_r 0), some (az_i (zt))]) (st2 := [az_r 1, az_r 17]) (s2 := s) rfl ?_
  refine az_clv (v := none) (t := am_ur s 19 (va_cpy (s 3) (s 19) 0 (q * 184) 184)) (m2 := am_m_X2_prepare) (as := [az_r 17, az_r 1]) (rest := []) 11 rfl rfl ⟨rfl, rfl⟩ (by omega) (zs_X2_prepare (s := s)  (by omega) hp hq) ?_
  refine az_to 0 (pc2 := 11) (lv2 := [some (az_r 0), some (az_i (zt))]) (st2 := []) (s2 := am_ur s 19 (va_cpy (s 3) (s 19) 0 (q * 184) 184)) rfl ?_
  refine az_to 4 (pc2 := 17) (lv2 := [some (az_r 0), some (az_i (zt))]) (st2 := [az_i (zt), az_r 4, az_r 0]) (s2 := am_ur s 19 (va_cpy (s 3) (s 19) 0 (q * 184) 184)) rfl ?_
  refine az_cl (m2 := am_m_X0_leaveBridge) (as := [az_r 4, az_i (zt)]) (rest := [az_r 0]) 20 rfl rfl ⟨rfl, rfl⟩ (by omega) (zs_X0_leaveBridge (s := am_ur s 19 (va_cpy (s 3) (s 19) 0 (q * 184) 184)) (zt := zt) (by omega) hRs hI hh (by first | assumption | exact ⟨by omega, by omega⟩)) (fun v1 u q1 => ?_) (fun E u q1 => by cases q1.1)
  obtain ⟨o1, hu⟩ := q1
  cases o1
  have hpu : u 17 1 = ((q : Nat) : Int) := by rw [hu.2.2.2.2 17 (by decide) (by decide)]; exact hp
  have hcu : u 17 2 = ((c : Nat) : Int) := by rw [hu.2.2.2.2 17 (by decide) (by decide)]; exact hc
  refine az_to 0 (pc2 := 20) (lv2 := [some (az_r 0), some (az_i (zt))]) (st2 := [az_r 5, az_r 0]) (s2 := u) rfl ?_
  have hr : (zo_leave S zt).1 = 0 ∨ (zo_leave S zt).1 = 1 ∨ (zo_leave S zt).1 = 2 ∨ (zo_leave S zt).1 = 3 := by unfold zo_leave; repeat (first | exact Or.inl rfl | exact Or.inr (Or.inl rfl) | exact Or.inr (Or.inr (Or.inl rfl)) | exact Or.inr (Or.inr (Or.inr rfl)) | split)
  rcases hr with hr | hr | hr | hr
  · have hku : u 5 0 = 0 := by rw [hu.2.1, hr]; rfl
    refine az_clv (v := some (az_i (u 5 1))) (t := am_up (am_up u 17 1 ((if q = 8 then 0 else q + 1 : Nat) : Int)) 17 2 ((if c = 8 then 8 else c + 1 : Nat) : Int)) (m2 := am_m_X9_conclude) (as := [az_r 0, az_r 5]) (rest := []) 23 rfl rfl ⟨rfl, rfl⟩ (by omega) (zs_X9_conclude_0 (s := u) (by omega) hpu hq hcu hc8 hku) ?_
    refine az_retI rfl rfl ?_
    exact zPc_0 hu hr rfl rfl
  · have hku : u 5 0 = 1 := by rw [hu.2.1, hr]; rfl
    refine az_cl (m2 := am_m_X9_conclude) (as := [az_r 0, az_r 5]) (rest := []) 23 rfl rfl ⟨rfl, rfl⟩ (by omega) (zs_X9_conclude_1 (s := u) (by omega) hpu hq hcu hc8 hku) (fun v t q9 => by cases q9.1) (fun E9 t q9 => ?_)
    obtain ⟨q8, q9⟩ := q9
    cases q8
    rw [q9]
    exact zPc_x hu hr (by omega)
  · have hku : u 5 0 = 2 := by rw [hu.2.1, hr]; rfl
    refine az_cl (m2 := am_m_X9_conclude) (as := [az_r 0, az_r 5]) (rest := []) 23 rfl rfl ⟨rfl, rfl⟩ (by omega) (zs_X9_conclude_2 (s := u) (by omega) hpu hq hcu hc8 hku) (fun v t q9 => by cases q9.1) (fun E9 t q9 => ?_)
    obtain ⟨q8, q9⟩ := q9
    cases q8
    rw [q9]
    exact zPc_x hu hr (by omega)
  · have hku : u 5 0 = 3 := by rw [hu.2.1, hr]; rfl
    refine az_cl (m2 := am_m_X9_conclude) (as := [az_r 0, az_r 5]) (rest := []) 23 rfl rfl ⟨rfl, rfl⟩ (by omega) (zs_X9_conclude_3 (s := u) (by omega) hpu hq hcu hc8 hku) (fun v t q9 => by cases q9.1) (fun E9 t q9 => ?_)
    obtain ⟨q8, q9⟩ := q9
    cases q8
    rw [q9]
    exact zPc_3 hu hr
set_option maxRecDepth 100000 in
set_option maxHeartbeats 800000 in
theorem zs_X9_riddle {d : Nat} {s : az_S} (hd : 6 ≤ d) {S : zR} {h : Nat} (hR : zRel (s 3) S) (hI : zInv S h) (hh : h ≤ 10000) (hh9 : h + 1 ≤ 10000) {q c : Nat} (hp : s 17 1 = ((q : Nat) : Int)) (hq : q ≤ 8) (hc : s 17 2 = ((c : Nat) : Int)) (hc8 : c ≤ 8) {zt : Int} {zd : Int} {zn0 : Int} (h_zt : az_in zt) (h_zd : az_in zd) (h_zn0 : az_in zn0) : az_R d am_m_X9_riddle 0 (az_ini (am_mL am_m_X9_riddle) [az_r 0, az_i (zt), az_i (zd), az_i (zn0)]) [] (s) (fun o t => o = zout (zo_riddle S zt zd zn0) ∧ zPc s t q c (zo_riddle S zt zd zn0)) := by
  have hRs : zRel (zs1 s q 3) S := hR
  refine az_to 0 (pc2 := 0) (lv2 := [some (az_r 0), some (az_i (zt)), some (az_i (zd)), some (az_i (zn0))]) (st2 := []) (s2 := s) rfl ?_
  refine az_to 4 (pc2 := 8) (lv2 := [some (az_r 0), some (az_i (zt)), some (az_i (zd)), some (az_i (zn0))]) (st2 := [az_r 1, az_r 17]) (s2 := s) rfl ?_
  refine az_clv (v := none) (t := am_ur s 19 (va_cpy (s 3) (s 19) 0 (q * 184) 184)) (m2 := am_m_X2_prepare) (as := [az_r 17, az_r 1]) (rest := []) 11 rfl rfl ⟨rfl, rfl⟩ (by omega) (zs_X2_prepare (s := s)  (by omega) hp hq) ?_
  refine az_to 0 (pc2 := 11) (lv2 := [some (az_r 0), some (az_i (zt)), some (az_i (zd)), some (az_i (zn0))]) (st2 := []) (s2 := am_ur s 19 (va_cpy (s 3) (s 19) 0 (q * 184) 184)) rfl ?_
  refine az_to 6 (pc2 := 19) (lv2 := [some (az_r 0), some (az_i (zt)), some (az_i (zd)), some (az_i (zn0))]) (st2 := [az_i (zn0), az_i (zd), az_i (zt), az_r 4, az_r 0]) (s2 := am_ur s 19 (va_cpy (s 3) (s 19) 0 (q * 184) 184)) rfl ?_
  refine az_cl (m2 := am_m_X0_giveRiddle) (as := [az_r 4, az_i (zt), az_i (zd), az_i (zn0)]) (rest := [az_r 0]) 22 rfl rfl ⟨rfl, rfl⟩ (by omega) (zs_X0_giveRiddle (s := am_ur s 19 (va_cpy (s 3) (s 19) 0 (q * 184) 184)) (zt := zt) (zd := zd) (zn0 := zn0) (by omega) hRs hI hh (by first | assumption | exact ⟨by omega, by omega⟩) (by first | assumption | exact ⟨by omega, by omega⟩) (by first | assumption | exact ⟨by omega, by omega⟩)) (fun v1 u q1 => ?_) (fun E u q1 => by cases q1.1)
  obtain ⟨o1, hu⟩ := q1
  cases o1
  have hpu : u 17 1 = ((q : Nat) : Int) := by rw [hu.2.2.2.2 17 (by decide) (by decide)]; exact hp
  have hcu : u 17 2 = ((c : Nat) : Int) := by rw [hu.2.2.2.2 17 (by decide) (by decide)]; exact hc
  refine az_to 0 (pc2 := 22) (lv2 := [some (az_r 0), some (az_i (zt)), some (az_i (zd)), some (az_i (zn0))]) (st2 := [az_r 5, az_r 0]) (s2 := u) rfl ?_
  have hr : (zo_riddle S zt zd zn0).1 = 0 ∨ (zo_riddle S zt zd zn0).1 = 1 ∨ (zo_riddle S zt zd zn0).1 = 2 ∨ (zo_riddle S zt zd zn0).1 = 3 := by unfold zo_riddle; repeat (first | exact Or.inl rfl | exact Or.inr (Or.inl rfl) | exact Or.inr (Or.inr (Or.inl rfl)) | exact Or.inr (Or.inr (Or.inr rfl)) | split)
  rcases hr with hr | hr | hr | hr
  · have hku : u 5 0 = 0 := by rw [hu.2.1, hr]; rfl
    refine az_clv (v := some (az_i (u 5 1))) (t := am_up (am_up u 17 1 ((if q = 8 then 0 else q + 1 : Nat) : Int)) 17 2 ((if c = 8 then 8 else c + 1 : Nat) : Int)) (m2 := am_m_X9_conclude) (as := [az_r 0, az_r 5]) (rest := []) 25 rfl rfl ⟨rfl, rfl⟩ (by omega) (zs_X9_conclude_0 (s := u) (by omega) hpu hq hcu hc8 hku) ?_
    refine az_retI rfl rfl ?_
    exact zPc_0 hu hr rfl rfl
  · have hku : u 5 0 = 1 := by rw [hu.2.1, hr]; rfl
    refine az_cl (m2 := am_m_X9_conclude) (as := [az_r 0, az_r 5]) (rest := []) 25 rfl rfl ⟨rfl, rfl⟩ (by omega) (zs_X9_conclude_1 (s := u) (by omega) hpu hq hcu hc8 hku) (fun v t q9 => by cases q9.1) (fun E9 t q9 => ?_)
    obtain ⟨q8, q9⟩ := q9
    cases q8
    rw [q9]
    exact zPc_x hu hr (by omega)
  · have hku : u 5 0 = 2 := by rw [hu.2.1, hr]; rfl
    refine az_cl (m2 := am_m_X9_conclude) (as := [az_r 0, az_r 5]) (rest := []) 25 rfl rfl ⟨rfl, rfl⟩ (by omega) (zs_X9_conclude_2 (s := u) (by omega) hpu hq hcu hc8 hku) (fun v t q9 => by cases q9.1) (fun E9 t q9 => ?_)
    obtain ⟨q8, q9⟩ := q9
    cases q8
    rw [q9]
    exact zPc_x hu hr (by omega)
  · have hku : u 5 0 = 3 := by rw [hu.2.1, hr]; rfl
    refine az_cl (m2 := am_m_X9_conclude) (as := [az_r 0, az_r 5]) (rest := []) 25 rfl rfl ⟨rfl, rfl⟩ (by omega) (zs_X9_conclude_3 (s := u) (by omega) hpu hq hcu hc8 hku) (fun v t q9 => by cases q9.1) (fun E9 t q9 => ?_)
    obtain ⟨q8, q9⟩ := q9
    cases q8
    rw [q9]
    exact zPc_3 hu hr
set_option maxRecDepth 100000 in
set_option maxHeartbeats 800000 in
theorem zs_X9_fog {d : Nat} {s : az_S} (hd : 6 ≤ d) {S : zR} {h : Nat} (hR : zRel (s 3) S) (hI : zInv S h) (hh : h ≤ 10000) (hh9 : h + 1 ≤ 10000) {q c : Nat} (hp : s 17 1 = ((q : Nat) : Int)) (hq : q ≤ 8) (hc : s 17 2 = ((c : Nat) : Int)) (hc8 : c ≤ 8) {zb : Int} {zn0 : Int} (h_zb : az_in zb) (h_zn0 : az_in zn0) : az_R d am_m_X9_fog 0 (az_ini (am_mL am_m_X9_fog) [az_r 0, az_i (zb), az_i (zn0)]) [] (s) (fun o t => o = zout (zo_fog S zb zn0) ∧ zPc s t q c (zo_fog S zb zn0)) := by
  have hRs : zRel (zs1 s q 3) S := hR
  refine az_to 0 (pc2 := 0) (lv2 := [some (az_r 0), some (az_i (zb)), some (az_i (zn0))]) (st2 := []) (s2 := s) rfl ?_
  refine az_to 4 (pc2 := 8) (lv2 := [some (az_r 0), some (az_i (zb)), some (az_i (zn0))]) (st2 := [az_r 1, az_r 17]) (s2 := s) rfl ?_
  refine az_clv (v := none) (t := am_ur s 19 (va_cpy (s 3) (s 19) 0 (q * 184) 184)) (m2 := am_m_X2_prepare) (as := [az_r 17, az_r 1]) (rest := []) 11 rfl rfl ⟨rfl, rfl⟩ (by omega) (zs_X2_prepare (s := s)  (by omega) hp hq) ?_
  refine az_to 0 (pc2 := 11) (lv2 := [some (az_r 0), some (az_i (zb)), some (az_i (zn0))]) (st2 := []) (s2 := am_ur s 19 (va_cpy (s 3) (s 19) 0 (q * 184) 184)) rfl ?_
  refine az_to 5 (pc2 := 18) (lv2 := [some (az_r 0), some (az_i (zb)), some (az_i (zn0))]) (st2 := [az_i (zn0), az_i (zb), az_r 4, az_r 0]) (s2 := am_ur s 19 (va_cpy (s 3) (s 19) 0 (q * 184) 184)) rfl ?_
  refine az_cl (m2 := am_m_X0_layFog) (as := [az_r 4, az_i (zb), az_i (zn0)]) (rest := [az_r 0]) 21 rfl rfl ⟨rfl, rfl⟩ (by omega) (zs_X0_layFog (s := am_ur s 19 (va_cpy (s 3) (s 19) 0 (q * 184) 184)) (zb := zb) (zn0 := zn0) (by omega) hRs hI hh (by first | assumption | exact ⟨by omega, by omega⟩) (by first | assumption | exact ⟨by omega, by omega⟩)) (fun v1 u q1 => ?_) (fun E u q1 => by cases q1.1)
  obtain ⟨o1, hu⟩ := q1
  cases o1
  have hpu : u 17 1 = ((q : Nat) : Int) := by rw [hu.2.2.2.2 17 (by decide) (by decide)]; exact hp
  have hcu : u 17 2 = ((c : Nat) : Int) := by rw [hu.2.2.2.2 17 (by decide) (by decide)]; exact hc
  refine az_to 0 (pc2 := 21) (lv2 := [some (az_r 0), some (az_i (zb)), some (az_i (zn0))]) (st2 := [az_r 5, az_r 0]) (s2 := u) rfl ?_
  have hr : (zo_fog S zb zn0).1 = 0 ∨ (zo_fog S zb zn0).1 = 1 ∨ (zo_fog S zb zn0).1 = 2 ∨ (zo_fog S zb zn0).1 = 3 := by unfold zo_fog; repeat (first | exact Or.inl rfl | exact Or.inr (Or.inl rfl) | exact Or.inr (Or.inr (Or.inl rfl)) | exact Or.inr (Or.inr (Or.inr rfl)) | split)
  rcases hr with hr | hr | hr | hr
  · have hku : u 5 0 = 0 := by rw [hu.2.1, hr]; rfl
    refine az_clv (v := some (az_i (u 5 1))) (t := am_up (am_up u 17 1 ((if q = 8 then 0 else q + 1 : Nat) : Int)) 17 2 ((if c = 8 then 8 else c + 1 : Nat) : Int)) (m2 := am_m_X9_conclude) (as := [az_r 0, az_r 5]) (rest := []) 24 rfl rfl ⟨rfl, rfl⟩ (by omega) (zs_X9_conclude_0 (s := u) (by omega) hpu hq hcu hc8 hku) ?_
    refine az_retI rfl rfl ?_
    exact zPc_0 hu hr rfl rfl
  · have hku : u 5 0 = 1 := by rw [hu.2.1, hr]; rfl
    refine az_cl (m2 := am_m_X9_conclude) (as := [az_r 0, az_r 5]) (rest := []) 24 rfl rfl ⟨rfl, rfl⟩ (by omega) (zs_X9_conclude_1 (s := u) (by omega) hpu hq hcu hc8 hku) (fun v t q9 => by cases q9.1) (fun E9 t q9 => ?_)
    obtain ⟨q8, q9⟩ := q9
    cases q8
    rw [q9]
    exact zPc_x hu hr (by omega)
  · have hku : u 5 0 = 2 := by rw [hu.2.1, hr]; rfl
    refine az_cl (m2 := am_m_X9_conclude) (as := [az_r 0, az_r 5]) (rest := []) 24 rfl rfl ⟨rfl, rfl⟩ (by omega) (zs_X9_conclude_2 (s := u) (by omega) hpu hq hcu hc8 hku) (fun v t q9 => by cases q9.1) (fun E9 t q9 => ?_)
    obtain ⟨q8, q9⟩ := q9
    cases q8
    rw [q9]
    exact zPc_x hu hr (by omega)
  · have hku : u 5 0 = 3 := by rw [hu.2.1, hr]; rfl
    refine az_cl (m2 := am_m_X9_conclude) (as := [az_r 0, az_r 5]) (rest := []) 24 rfl rfl ⟨rfl, rfl⟩ (by omega) (zs_X9_conclude_3 (s := u) (by omega) hpu hq hcu hc8 hku) (fun v t q9 => by cases q9.1) (fun E9 t q9 => ?_)
    obtain ⟨q8, q9⟩ := q9
    cases q8
    rw [q9]
    exact zPc_3 hu hr
set_option maxRecDepth 100000 in
set_option maxHeartbeats 800000 in
theorem zs_X9_price {d : Nat} {s : az_S} (hd : 6 ≤ d) {S : zR} {h : Nat} (hR : zRel (s 3) S) (hI : zInv S h) (hh : h ≤ 10000) (hh9 : h + 1 ≤ 10000) {q c : Nat} (hp : s 17 1 = ((q : Nat) : Int)) (hq : q ≤ 8) (hc : s 17 2 = ((c : Nat) : Int)) (hc8 : c ≤ 8) {zb : Int} {zr : Int} (h_zb : az_in zb) (h_zr : az_in zr) : az_R d am_m_X9_price 0 (az_ini (am_mL am_m_X9_price) [az_r 0, az_i (zb), az_i (zr)]) [] (s) (fun o t => o = zout (zo_price S zb zr) ∧ zPc s t q c (zo_price S zb zr)) := by
  have hRs : zRel (zs1 s q 3) S := hR
  refine az_to 0 (pc2 := 0) (lv2 := [some (az_r 0), some (az_i (zb)), some (az_i (zr))]) (st2 := []) (s2 := s) rfl ?_
  refine az_to 4 (pc2 := 8) (lv2 := [some (az_r 0), some (az_i (zb)), some (az_i (zr))]) (st2 := [az_r 1, az_r 17]) (s2 := s) rfl ?_
  refine az_clv (v := none) (t := am_ur s 19 (va_cpy (s 3) (s 19) 0 (q * 184) 184)) (m2 := am_m_X2_prepare) (as := [az_r 17, az_r 1]) (rest := []) 11 rfl rfl ⟨rfl, rfl⟩ (by omega) (zs_X2_prepare (s := s)  (by omega) hp hq) ?_
  refine az_to 0 (pc2 := 11) (lv2 := [some (az_r 0), some (az_i (zb)), some (az_i (zr))]) (st2 := []) (s2 := am_ur s 19 (va_cpy (s 3) (s 19) 0 (q * 184) 184)) rfl ?_
  refine az_to 5 (pc2 := 18) (lv2 := [some (az_r 0), some (az_i (zb)), some (az_i (zr))]) (st2 := [az_i (zr), az_i (zb), az_r 4, az_r 0]) (s2 := am_ur s 19 (va_cpy (s 3) (s 19) 0 (q * 184) 184)) rfl ?_
  refine az_cl (m2 := am_m_X0_changeToll) (as := [az_r 4, az_i (zb), az_i (zr)]) (rest := [az_r 0]) 21 rfl rfl ⟨rfl, rfl⟩ (by omega) (zs_X0_changeToll (s := am_ur s 19 (va_cpy (s 3) (s 19) 0 (q * 184) 184)) (zb := zb) (zr := zr) (by omega) hRs hI hh (by first | assumption | exact ⟨by omega, by omega⟩) (by first | assumption | exact ⟨by omega, by omega⟩)) (fun v1 u q1 => ?_) (fun E u q1 => by cases q1.1)
  obtain ⟨o1, hu⟩ := q1
  cases o1
  have hpu : u 17 1 = ((q : Nat) : Int) := by rw [hu.2.2.2.2 17 (by decide) (by decide)]; exact hp
  have hcu : u 17 2 = ((c : Nat) : Int) := by rw [hu.2.2.2.2 17 (by decide) (by decide)]; exact hc
  refine az_to 0 (pc2 := 21) (lv2 := [some (az_r 0), some (az_i (zb)), some (az_i (zr))]) (st2 := [az_r 5, az_r 0]) (s2 := u) rfl ?_
  have hr : (zo_price S zb zr).1 = 0 ∨ (zo_price S zb zr).1 = 1 ∨ (zo_price S zb zr).1 = 2 ∨ (zo_price S zb zr).1 = 3 := by unfold zo_price; repeat (first | exact Or.inl rfl | exact Or.inr (Or.inl rfl) | exact Or.inr (Or.inr (Or.inl rfl)) | exact Or.inr (Or.inr (Or.inr rfl)) | split)
  rcases hr with hr | hr | hr | hr
  · have hku : u 5 0 = 0 := by rw [hu.2.1, hr]; rfl
    refine az_clv (v := some (az_i (u 5 1))) (t := am_up (am_up u 17 1 ((if q = 8 then 0 else q + 1 : Nat) : Int)) 17 2 ((if c = 8 then 8 else c + 1 : Nat) : Int)) (m2 := am_m_X9_conclude) (as := [az_r 0, az_r 5]) (rest := []) 24 rfl rfl ⟨rfl, rfl⟩ (by omega) (zs_X9_conclude_0 (s := u) (by omega) hpu hq hcu hc8 hku) ?_
    refine az_retI rfl rfl ?_
    exact zPc_0 hu hr rfl rfl
  · have hku : u 5 0 = 1 := by rw [hu.2.1, hr]; rfl
    refine az_cl (m2 := am_m_X9_conclude) (as := [az_r 0, az_r 5]) (rest := []) 24 rfl rfl ⟨rfl, rfl⟩ (by omega) (zs_X9_conclude_1 (s := u) (by omega) hpu hq hcu hc8 hku) (fun v t q9 => by cases q9.1) (fun E9 t q9 => ?_)
    obtain ⟨q8, q9⟩ := q9
    cases q8
    rw [q9]
    exact zPc_x hu hr (by omega)
  · have hku : u 5 0 = 2 := by rw [hu.2.1, hr]; rfl
    refine az_cl (m2 := am_m_X9_conclude) (as := [az_r 0, az_r 5]) (rest := []) 24 rfl rfl ⟨rfl, rfl⟩ (by omega) (zs_X9_conclude_2 (s := u) (by omega) hpu hq hcu hc8 hku) (fun v t q9 => by cases q9.1) (fun E9 t q9 => ?_)
    obtain ⟨q8, q9⟩ := q9
    cases q8
    rw [q9]
    exact zPc_x hu hr (by omega)
  · have hku : u 5 0 = 3 := by rw [hu.2.1, hr]; rfl
    refine az_cl (m2 := am_m_X9_conclude) (as := [az_r 0, az_r 5]) (rest := []) 24 rfl rfl ⟨rfl, rfl⟩ (by omega) (zs_X9_conclude_3 (s := u) (by omega) hpu hq hcu hc8 hku) (fun v t q9 => by cases q9.1) (fun E9 t q9 => ?_)
    obtain ⟨q8, q9⟩ := q9
    cases q8
    rw [q9]
    exact zPc_3 hu hr
set_option maxRecDepth 100000 in
set_option maxHeartbeats 800000 in
theorem zs_X9_cross {d : Nat} {s : az_S} (hd : 6 ≤ d) {S : zR} {h : Nat} (hR : zRel (s 3) S) (hI : zInv S h) (hh : h ≤ 10000) (hh9 : h + 1 ≤ 10000) {q c : Nat} (hp : s 17 1 = ((q : Nat) : Int)) (hq : q ≤ 8) (hc : s 17 2 = ((c : Nat) : Int)) (hc8 : c ≤ 8) {zg : Int} {zb : Int} (h_zg : az_in zg) (h_zb : az_in zb) : az_R d am_m_X9_cross 0 (az_ini (am_mL am_m_X9_cross) [az_r 0, az_i (zg), az_i (zb)]) [] (s) (fun o t => o = zout (zo_cross S zg zb) ∧ zPc s t q c (zo_cross S zg zb)) := by
  have hRs : zRel (zs1 s q 3) S := hR
  refine az_to 0 (pc2 := 0) (lv2 := [some (az_r 0), some (az_i (zg)), some (az_i (zb))]) (st2 := []) (s2 := s) rfl ?_
  refine az_to 4 (pc2 := 8) (lv2 := [some (az_r 0), some (az_i (zg)), some (az_i (zb))]) (st2 := [az_r 1, az_r 17]) (s2 := s) rfl ?_
  refine az_clv (v := none) (t := am_ur s 19 (va_cpy (s 3) (s 19) 0 (q * 184) 184)) (m2 := am_m_X2_prepare) (as := [az_r 17, az_r 1]) (rest := []) 11 rfl rfl ⟨rfl, rfl⟩ (by omega) (zs_X2_prepare (s := s)  (by omega) hp hq) ?_
  refine az_to 0 (pc2 := 11) (lv2 := [some (az_r 0), some (az_i (zg)), some (az_i (zb))]) (st2 := []) (s2 := am_ur s 19 (va_cpy (s 3) (s 19) 0 (q * 184) 184)) rfl ?_
  refine az_to 5 (pc2 := 18) (lv2 := [some (az_r 0), some (az_i (zg)), some (az_i (zb))]) (st2 := [az_i (zb), az_i (zg), az_r 4, az_r 0]) (s2 := am_ur s 19 (va_cpy (s 3) (s 19) 0 (q * 184) 184)) rfl ?_
  refine az_cl (m2 := am_m_X0_crossBridge) (as := [az_r 4, az_i (zg), az_i (zb)]) (rest := [az_r 0]) 21 rfl rfl ⟨rfl, rfl⟩ (by omega) (zs_X0_crossBridge (s := am_ur s 19 (va_cpy (s 3) (s 19) 0 (q * 184) 184)) (zg := zg) (zb := zb) (by omega) hRs hI hh (by first | assumption | exact ⟨by omega, by omega⟩) (by first | assumption | exact ⟨by omega, by omega⟩) (by omega)) (fun v1 u q1 => ?_) (fun E u q1 => by cases q1.1)
  obtain ⟨o1, hu⟩ := q1
  cases o1
  have hpu : u 17 1 = ((q : Nat) : Int) := by rw [hu.2.2.2.2 17 (by decide) (by decide)]; exact hp
  have hcu : u 17 2 = ((c : Nat) : Int) := by rw [hu.2.2.2.2 17 (by decide) (by decide)]; exact hc
  refine az_to 0 (pc2 := 21) (lv2 := [some (az_r 0), some (az_i (zg)), some (az_i (zb))]) (st2 := [az_r 5, az_r 0]) (s2 := u) rfl ?_
  have hr : (zo_cross S zg zb).1 = 0 ∨ (zo_cross S zg zb).1 = 1 ∨ (zo_cross S zg zb).1 = 2 ∨ (zo_cross S zg zb).1 = 3 := by unfold zo_cross; repeat (first | exact Or.inl rfl | exact Or.inr (Or.inl rfl) | exact Or.inr (Or.inr (Or.inl rfl)) | exact Or.inr (Or.inr (Or.inr rfl)) | split)
  rcases hr with hr | hr | hr | hr
  · have hku : u 5 0 = 0 := by rw [hu.2.1, hr]; rfl
    refine az_clv (v := some (az_i (u 5 1))) (t := am_up (am_up u 17 1 ((if q = 8 then 0 else q + 1 : Nat) : Int)) 17 2 ((if c = 8 then 8 else c + 1 : Nat) : Int)) (m2 := am_m_X9_conclude) (as := [az_r 0, az_r 5]) (rest := []) 24 rfl rfl ⟨rfl, rfl⟩ (by omega) (zs_X9_conclude_0 (s := u) (by omega) hpu hq hcu hc8 hku) ?_
    refine az_retI rfl rfl ?_
    exact zPc_0 hu hr rfl rfl
  · have hku : u 5 0 = 1 := by rw [hu.2.1, hr]; rfl
    refine az_cl (m2 := am_m_X9_conclude) (as := [az_r 0, az_r 5]) (rest := []) 24 rfl rfl ⟨rfl, rfl⟩ (by omega) (zs_X9_conclude_1 (s := u) (by omega) hpu hq hcu hc8 hku) (fun v t q9 => by cases q9.1) (fun E9 t q9 => ?_)
    obtain ⟨q8, q9⟩ := q9
    cases q8
    rw [q9]
    exact zPc_x hu hr (by omega)
  · have hku : u 5 0 = 2 := by rw [hu.2.1, hr]; rfl
    refine az_cl (m2 := am_m_X9_conclude) (as := [az_r 0, az_r 5]) (rest := []) 24 rfl rfl ⟨rfl, rfl⟩ (by omega) (zs_X9_conclude_2 (s := u) (by omega) hpu hq hcu hc8 hku) (fun v t q9 => by cases q9.1) (fun E9 t q9 => ?_)
    obtain ⟨q8, q9⟩ := q9
    cases q8
    rw [q9]
    exact zPc_x hu hr (by omega)
  · have hku : u 5 0 = 3 := by rw [hu.2.1, hr]; rfl
    refine az_cl (m2 := am_m_X9_conclude) (as := [az_r 0, az_r 5]) (rest := []) 24 rfl rfl ⟨rfl, rfl⟩ (by omega) (zs_X9_conclude_3 (s := u) (by omega) hpu hq hcu hc8 hku) (fun v t q9 => by cases q9.1) (fun E9 t q9 => ?_)
    obtain ⟨q8, q9⟩ := q9
    cases q8
    rw [q9]
    exact zPc_3 hu hr
set_option maxRecDepth 100000 in
set_option maxHeartbeats 800000 in
theorem zs_X9_dispute {d : Nat} {s : az_S} (hd : 6 ≤ d) {S : zR} {h : Nat} (hR : zRel (s 3) S) (hI : zInv S h) (hh : h ≤ 10000) (hh9 : h + 1 ≤ 10000) {q c : Nat} (hp : s 17 1 = ((q : Nat) : Int)) (hq : q ≤ 8) (hc : s 17 2 = ((c : Nat) : Int)) (hc8 : c ≤ 8) {zg : Int} {zb : Int} (h_zg : az_in zg) (h_zb : az_in zb) : az_R d am_m_X9_dispute 0 (az_ini (am_mL am_m_X9_dispute) [az_r 0, az_i (zg), az_i (zb)]) [] (s) (fun o t => o = zout (zo_dispute S zg zb) ∧ zPc s t q c (zo_dispute S zg zb)) := by
  have hRs : zRel (zs1 s q 3) S := hR
  refine az_to 0 (pc2 := 0) (lv2 := [some (az_r 0), some (az_i (zg)), some (az_i (zb))]) (st2 := []) (s2 := s) rfl ?_
  refine az_to 4 (pc2 := 8) (lv2 := [some (az_r 0), some (az_i (zg)), some (az_i (zb))]) (st2 := [az_r 1, az_r 17]) (s2 := s) rfl ?_
  refine az_clv (v := none) (t := am_ur s 19 (va_cpy (s 3) (s 19) 0 (q * 184) 184)) (m2 := am_m_X2_prepare) (as := [az_r 17, az_r 1]) (rest := []) 11 rfl rfl ⟨rfl, rfl⟩ (by omega) (zs_X2_prepare (s := s)  (by omega) hp hq) ?_
  refine az_to 0 (pc2 := 11) (lv2 := [some (az_r 0), some (az_i (zg)), some (az_i (zb))]) (st2 := []) (s2 := am_ur s 19 (va_cpy (s 3) (s 19) 0 (q * 184) 184)) rfl ?_
  refine az_to 5 (pc2 := 18) (lv2 := [some (az_r 0), some (az_i (zg)), some (az_i (zb))]) (st2 := [az_i (zb), az_i (zg), az_r 4, az_r 0]) (s2 := am_ur s 19 (va_cpy (s 3) (s 19) 0 (q * 184) 184)) rfl ?_
  refine az_cl (m2 := am_m_X0_disputeToll) (as := [az_r 4, az_i (zg), az_i (zb)]) (rest := [az_r 0]) 21 rfl rfl ⟨rfl, rfl⟩ (by omega) (zs_X0_disputeToll (s := am_ur s 19 (va_cpy (s 3) (s 19) 0 (q * 184) 184)) (zg := zg) (zb := zb) (by omega) hRs hI hh (by first | assumption | exact ⟨by omega, by omega⟩) (by first | assumption | exact ⟨by omega, by omega⟩)) (fun v1 u q1 => ?_) (fun E u q1 => by cases q1.1)
  obtain ⟨o1, hu⟩ := q1
  cases o1
  have hpu : u 17 1 = ((q : Nat) : Int) := by rw [hu.2.2.2.2 17 (by decide) (by decide)]; exact hp
  have hcu : u 17 2 = ((c : Nat) : Int) := by rw [hu.2.2.2.2 17 (by decide) (by decide)]; exact hc
  refine az_to 0 (pc2 := 21) (lv2 := [some (az_r 0), some (az_i (zg)), some (az_i (zb))]) (st2 := [az_r 5, az_r 0]) (s2 := u) rfl ?_
  have hr : (zo_dispute S zg zb).1 = 0 ∨ (zo_dispute S zg zb).1 = 1 ∨ (zo_dispute S zg zb).1 = 2 ∨ (zo_dispute S zg zb).1 = 3 := by unfold zo_dispute; repeat (first | exact Or.inl rfl | exact Or.inr (Or.inl rfl) | exact Or.inr (Or.inr (Or.inl rfl)) | exact Or.inr (Or.inr (Or.inr rfl)) | split)
  rcases hr with hr | hr | hr | hr
  · have hku : u 5 0 = 0 := by rw [hu.2.1, hr]; rfl
    refine az_clv (v := some (az_i (u 5 1))) (t := am_up (am_up u 17 1 ((if q = 8 then 0 else q + 1 : Nat) : Int)) 17 2 ((if c = 8 then 8 else c + 1 : Nat) : Int)) (m2 := am_m_X9_conclude) (as := [az_r 0, az_r 5]) (rest := []) 24 rfl rfl ⟨rfl, rfl⟩ (by omega) (zs_X9_conclude_0 (s := u) (by omega) hpu hq hcu hc8 hku) ?_
    refine az_retI rfl rfl ?_
    exact zPc_0 hu hr rfl rfl
  · have hku : u 5 0 = 1 := by rw [hu.2.1, hr]; rfl
    refine az_cl (m2 := am_m_X9_conclude) (as := [az_r 0, az_r 5]) (rest := []) 24 rfl rfl ⟨rfl, rfl⟩ (by omega) (zs_X9_conclude_1 (s := u) (by omega) hpu hq hcu hc8 hku) (fun v t q9 => by cases q9.1) (fun E9 t q9 => ?_)
    obtain ⟨q8, q9⟩ := q9
    cases q8
    rw [q9]
    exact zPc_x hu hr (by omega)
  · have hku : u 5 0 = 2 := by rw [hu.2.1, hr]; rfl
    refine az_cl (m2 := am_m_X9_conclude) (as := [az_r 0, az_r 5]) (rest := []) 24 rfl rfl ⟨rfl, rfl⟩ (by omega) (zs_X9_conclude_2 (s := u) (by omega) hpu hq hcu hc8 hku) (fun v t q9 => by cases q9.1) (fun E9 t q9 => ?_)
    obtain ⟨q8, q9⟩ := q9
    cases q8
    rw [q9]
    exact zPc_x hu hr (by omega)
  · have hku : u 5 0 = 3 := by rw [hu.2.1, hr]; rfl
    refine az_cl (m2 := am_m_X9_conclude) (as := [az_r 0, az_r 5]) (rest := []) 24 rfl rfl ⟨rfl, rfl⟩ (by omega) (zs_X9_conclude_3 (s := u) (by omega) hpu hq hcu hc8 hku) (fun v t q9 => by cases q9.1) (fun E9 t q9 => ?_)
    obtain ⟨q8, q9⟩ := q9
    cases q8
    rw [q9]
    exact zPc_3 hu hr
set_option maxRecDepth 100000 in
set_option maxHeartbeats 800000 in
theorem zs_X9_settle_1 {d : Nat} {s : az_S} (hd : 6 ≤ d) {S : zR} {h : Nat} (hR : zRel (s 3) S) (hI : zInv S h) (hh : h ≤ 10000) (hh9 : h + 1 ≤ 10000) {q c : Nat} (hp : s 17 1 = ((q : Nat) : Int)) (hq : q ≤ 8) (hc : s 17 2 = ((c : Nat) : Int)) (hc8 : c ≤ 8) {zb : Int} (h_zb : az_in zb) : az_R d am_m_X9_settle 0 (az_ini (am_mL am_m_X9_settle) [az_r 0, az_i (zb), az_i (1)]) [] (s) (fun o t => o = zout (zo_settle S zb 1) ∧ zPc s t q c (zo_settle S zb 1)) := by
  have hRs : zRel (zs1 s q 3) S := hR
  refine az_to 0 (pc2 := 0) (lv2 := [some (az_r 0), some (az_i (zb)), some (az_i (1))]) (st2 := []) (s2 := s) rfl ?_
  refine az_to 4 (pc2 := 8) (lv2 := [some (az_r 0), some (az_i (zb)), some (az_i (1))]) (st2 := [az_r 1, az_r 17]) (s2 := s) rfl ?_
  refine az_clv (v := none) (t := am_ur s 19 (va_cpy (s 3) (s 19) 0 (q * 184) 184)) (m2 := am_m_X2_prepare) (as := [az_r 17, az_r 1]) (rest := []) 11 rfl rfl ⟨rfl, rfl⟩ (by omega) (zs_X2_prepare (s := s)  (by omega) hp hq) ?_
  refine az_to 0 (pc2 := 11) (lv2 := [some (az_r 0), some (az_i (zb)), some (az_i (1))]) (st2 := []) (s2 := am_ur s 19 (va_cpy (s 3) (s 19) 0 (q * 184) 184)) rfl ?_
  refine az_to 5 (pc2 := 18) (lv2 := [some (az_r 0), some (az_i (zb)), some (az_i (1))]) (st2 := [az_i (1), az_i (zb), az_r 4, az_r 0]) (s2 := am_ur s 19 (va_cpy (s 3) (s 19) 0 (q * 184) 184)) rfl ?_
  refine az_cl (m2 := am_m_X0_settleDispute) (as := [az_r 4, az_i (zb), az_i (1)]) (rest := [az_r 0]) 21 rfl rfl ⟨rfl, rfl⟩ (by omega) (zs_X0_settleDispute_1 (s := am_ur s 19 (va_cpy (s 3) (s 19) 0 (q * 184) 184)) (zb := zb) (by omega) hRs hI hh (by first | assumption | exact ⟨by omega, by omega⟩)) (fun v1 u q1 => ?_) (fun E u q1 => by cases q1.1)
  obtain ⟨o1, hu⟩ := q1
  cases o1
  have hpu : u 17 1 = ((q : Nat) : Int) := by rw [hu.2.2.2.2 17 (by decide) (by decide)]; exact hp
  have hcu : u 17 2 = ((c : Nat) : Int) := by rw [hu.2.2.2.2 17 (by decide) (by decide)]; exact hc
  refine az_to 0 (pc2 := 21) (lv2 := [some (az_r 0), some (az_i (zb)), some (az_i (1))]) (st2 := [az_r 5, az_r 0]) (s2 := u) rfl ?_
  have hr : (zo_settle S zb 1).1 = 0 ∨ (zo_settle S zb 1).1 = 1 ∨ (zo_settle S zb 1).1 = 2 ∨ (zo_settle S zb 1).1 = 3 := by unfold zo_settle; repeat (first | exact Or.inl rfl | exact Or.inr (Or.inl rfl) | exact Or.inr (Or.inr (Or.inl rfl)) | exact Or.inr (Or.inr (Or.inr rfl)) | split)
  rcases hr with hr | hr | hr | hr
  · have hku : u 5 0 = 0 := by rw [hu.2.1, hr]; rfl
    refine az_clv (v := some (az_i (u 5 1))) (t := am_up (am_up u 17 1 ((if q = 8 then 0 else q + 1 : Nat) : Int)) 17 2 ((if c = 8 then 8 else c + 1 : Nat) : Int)) (m2 := am_m_X9_conclude) (as := [az_r 0, az_r 5]) (rest := []) 24 rfl rfl ⟨rfl, rfl⟩ (by omega) (zs_X9_conclude_0 (s := u) (by omega) hpu hq hcu hc8 hku) ?_
    refine az_retI rfl rfl ?_
    exact zPc_0 hu hr rfl rfl
  · have hku : u 5 0 = 1 := by rw [hu.2.1, hr]; rfl
    refine az_cl (m2 := am_m_X9_conclude) (as := [az_r 0, az_r 5]) (rest := []) 24 rfl rfl ⟨rfl, rfl⟩ (by omega) (zs_X9_conclude_1 (s := u) (by omega) hpu hq hcu hc8 hku) (fun v t q9 => by cases q9.1) (fun E9 t q9 => ?_)
    obtain ⟨q8, q9⟩ := q9
    cases q8
    rw [q9]
    exact zPc_x hu hr (by omega)
  · have hku : u 5 0 = 2 := by rw [hu.2.1, hr]; rfl
    refine az_cl (m2 := am_m_X9_conclude) (as := [az_r 0, az_r 5]) (rest := []) 24 rfl rfl ⟨rfl, rfl⟩ (by omega) (zs_X9_conclude_2 (s := u) (by omega) hpu hq hcu hc8 hku) (fun v t q9 => by cases q9.1) (fun E9 t q9 => ?_)
    obtain ⟨q8, q9⟩ := q9
    cases q8
    rw [q9]
    exact zPc_x hu hr (by omega)
  · have hku : u 5 0 = 3 := by rw [hu.2.1, hr]; rfl
    refine az_cl (m2 := am_m_X9_conclude) (as := [az_r 0, az_r 5]) (rest := []) 24 rfl rfl ⟨rfl, rfl⟩ (by omega) (zs_X9_conclude_3 (s := u) (by omega) hpu hq hcu hc8 hku) (fun v t q9 => by cases q9.1) (fun E9 t q9 => ?_)
    obtain ⟨q8, q9⟩ := q9
    cases q8
    rw [q9]
    exact zPc_3 hu hr
set_option maxRecDepth 100000 in
set_option maxHeartbeats 800000 in
theorem zs_X9_settle_0 {d : Nat} {s : az_S} (hd : 6 ≤ d) {S : zR} {h : Nat} (hR : zRel (s 3) S) (hI : zInv S h) (hh : h ≤ 10000) (hh9 : h + 1 ≤ 10000) {q c : Nat} (hp : s 17 1 = ((q : Nat) : Int)) (hq : q ≤ 8) (hc : s 17 2 = ((c : Nat) : Int)) (hc8 : c ≤ 8) {zb : Int} (h_zb : az_in zb) : az_R d am_m_X9_settle 0 (az_ini (am_mL am_m_X9_settle) [az_r 0, az_i (zb), az_i (0)]) [] (s) (fun o t => o = zout (zo_settle S zb 0) ∧ zPc s t q c (zo_settle S zb 0)) := by
  have hRs : zRel (zs1 s q 3) S := hR
  refine az_to 0 (pc2 := 0) (lv2 := [some (az_r 0), some (az_i (zb)), some (az_i (0))]) (st2 := []) (s2 := s) rfl ?_
  refine az_to 4 (pc2 := 8) (lv2 := [some (az_r 0), some (az_i (zb)), some (az_i (0))]) (st2 := [az_r 1, az_r 17]) (s2 := s) rfl ?_
  refine az_clv (v := none) (t := am_ur s 19 (va_cpy (s 3) (s 19) 0 (q * 184) 184)) (m2 := am_m_X2_prepare) (as := [az_r 17, az_r 1]) (rest := []) 11 rfl rfl ⟨rfl, rfl⟩ (by omega) (zs_X2_prepare (s := s)  (by omega) hp hq) ?_
  refine az_to 0 (pc2 := 11) (lv2 := [some (az_r 0), some (az_i (zb)), some (az_i (0))]) (st2 := []) (s2 := am_ur s 19 (va_cpy (s 3) (s 19) 0 (q * 184) 184)) rfl ?_
  refine az_to 5 (pc2 := 18) (lv2 := [some (az_r 0), some (az_i (zb)), some (az_i (0))]) (st2 := [az_i (0), az_i (zb), az_r 4, az_r 0]) (s2 := am_ur s 19 (va_cpy (s 3) (s 19) 0 (q * 184) 184)) rfl ?_
  refine az_cl (m2 := am_m_X0_settleDispute) (as := [az_r 4, az_i (zb), az_i (0)]) (rest := [az_r 0]) 21 rfl rfl ⟨rfl, rfl⟩ (by omega) (zs_X0_settleDispute_0 (s := am_ur s 19 (va_cpy (s 3) (s 19) 0 (q * 184) 184)) (zb := zb) (by omega) hRs hI hh (by first | assumption | exact ⟨by omega, by omega⟩)) (fun v1 u q1 => ?_) (fun E u q1 => by cases q1.1)
  obtain ⟨o1, hu⟩ := q1
  cases o1
  have hpu : u 17 1 = ((q : Nat) : Int) := by rw [hu.2.2.2.2 17 (by decide) (by decide)]; exact hp
  have hcu : u 17 2 = ((c : Nat) : Int) := by rw [hu.2.2.2.2 17 (by decide) (by decide)]; exact hc
  refine az_to 0 (pc2 := 21) (lv2 := [some (az_r 0), some (az_i (zb)), some (az_i (0))]) (st2 := [az_r 5, az_r 0]) (s2 := u) rfl ?_
  have hr : (zo_settle S zb 0).1 = 0 ∨ (zo_settle S zb 0).1 = 1 ∨ (zo_settle S zb 0).1 = 2 ∨ (zo_settle S zb 0).1 = 3 := by unfold zo_settle; repeat (first | exact Or.inl rfl | exact Or.inr (Or.inl rfl) | exact Or.inr (Or.inr (Or.inl rfl)) | exact Or.inr (Or.inr (Or.inr rfl)) | split)
  rcases hr with hr | hr | hr | hr
  · have hku : u 5 0 = 0 := by rw [hu.2.1, hr]; rfl
    refine az_clv (v := some (az_i (u 5 1))) (t := am_up (am_up u 17 1 ((if q = 8 then 0 else q + 1 : Nat) : Int)) 17 2 ((if c = 8 then 8 else c + 1 : Nat) : Int)) (m2 := am_m_X9_conclude) (as := [az_r 0, az_r 5]) (rest := []) 24 rfl rfl ⟨rfl, rfl⟩ (by omega) (zs_X9_conclude_0 (s := u) (by omega) hpu hq hcu hc8 hku) ?_
    refine az_retI rfl rfl ?_
    exact zPc_0 hu hr rfl rfl
  · have hku : u 5 0 = 1 := by rw [hu.2.1, hr]; rfl
    refine az_cl (m2 := am_m_X9_conclude) (as := [az_r 0, az_r 5]) (rest := []) 24 rfl rfl ⟨rfl, rfl⟩ (by omega) (zs_X9_conclude_1 (s := u) (by omega) hpu hq hcu hc8 hku) (fun v t q9 => by cases q9.1) (fun E9 t q9 => ?_)
    obtain ⟨q8, q9⟩ := q9
    cases q8
    rw [q9]
    exact zPc_x hu hr (by omega)
  · have hku : u 5 0 = 2 := by rw [hu.2.1, hr]; rfl
    refine az_cl (m2 := am_m_X9_conclude) (as := [az_r 0, az_r 5]) (rest := []) 24 rfl rfl ⟨rfl, rfl⟩ (by omega) (zs_X9_conclude_2 (s := u) (by omega) hpu hq hcu hc8 hku) (fun v t q9 => by cases q9.1) (fun E9 t q9 => ?_)
    obtain ⟨q8, q9⟩ := q9
    cases q8
    rw [q9]
    exact zPc_x hu hr (by omega)
  · have hku : u 5 0 = 3 := by rw [hu.2.1, hr]; rfl
    refine az_cl (m2 := am_m_X9_conclude) (as := [az_r 0, az_r 5]) (rest := []) 24 rfl rfl ⟨rfl, rfl⟩ (by omega) (zs_X9_conclude_3 (s := u) (by omega) hpu hq hcu hc8 hku) (fun v t q9 => by cases q9.1) (fun E9 t q9 => ?_)
    obtain ⟨q8, q9⟩ := q9
    cases q8
    rw [q9]
    exact zPc_3 hu hr
set_option maxRecDepth 100000 in
set_option maxHeartbeats 800000 in
theorem zs_X9_strike_1 {d : Nat} {s : az_S} (hd : 6 ≤ d) {S : zR} {h : Nat} (hR : zRel (s 3) S) (hI : zInv S h) (hh : h ≤ 10000) (hh9 : h + 1 ≤ 10000) {q c : Nat} (hp : s 17 1 = ((q : Nat) : Int)) (hq : q ≤ 8) (hc : s 17 2 = ((c : Nat) : Int)) (hc8 : c ≤ 8) {zg : Int} (h_zg : az_in zg) : az_R d am_m_X9_strike 0 (az_ini (am_mL am_m_X9_strike) [az_r 0, az_i (zg), az_i (1)]) [] (s) (fun o t => o = zout (zo_strike S zg 1) ∧ zPc s t q c (zo_strike S zg 1)) := by
  have hRs : zRel (zs1 s q 3) S := hR
  refine az_to 0 (pc2 := 0) (lv2 := [some (az_r 0), some (az_i (zg)), some (az_i (1))]) (st2 := []) (s2 := s) rfl ?_
  refine az_to 4 (pc2 := 8) (lv2 := [some (az_r 0), some (az_i (zg)), some (az_i (1))]) (st2 := [az_r 1, az_r 17]) (s2 := s) rfl ?_
  refine az_clv (v := none) (t := am_ur s 19 (va_cpy (s 3) (s 19) 0 (q * 184) 184)) (m2 := am_m_X2_prepare) (as := [az_r 17, az_r 1]) (rest := []) 11 rfl rfl ⟨rfl, rfl⟩ (by omega) (zs_X2_prepare (s := s)  (by omega) hp hq) ?_
  refine az_to 0 (pc2 := 11) (lv2 := [some (az_r 0), some (az_i (zg)), some (az_i (1))]) (st2 := []) (s2 := am_ur s 19 (va_cpy (s 3) (s 19) 0 (q * 184) 184)) rfl ?_
  refine az_to 5 (pc2 := 18) (lv2 := [some (az_r 0), some (az_i (zg)), some (az_i (1))]) (st2 := [az_i (1), az_i (zg), az_r 4, az_r 0]) (s2 := am_ur s 19 (va_cpy (s 3) (s 19) 0 (q * 184) 184)) rfl ?_
  refine az_cl (m2 := am_m_X0_changeStrike) (as := [az_r 4, az_i (zg), az_i (1)]) (rest := [az_r 0]) 21 rfl rfl ⟨rfl, rfl⟩ (by omega) (zs_X0_changeStrike_1 (s := am_ur s 19 (va_cpy (s 3) (s 19) 0 (q * 184) 184)) (zg := zg) (by omega) hRs hI hh (by first | assumption | exact ⟨by omega, by omega⟩)) (fun v1 u q1 => ?_) (fun E u q1 => by cases q1.1)
  obtain ⟨o1, hu⟩ := q1
  cases o1
  have hpu : u 17 1 = ((q : Nat) : Int) := by rw [hu.2.2.2.2 17 (by decide) (by decide)]; exact hp
  have hcu : u 17 2 = ((c : Nat) : Int) := by rw [hu.2.2.2.2 17 (by decide) (by decide)]; exact hc
  refine az_to 0 (pc2 := 21) (lv2 := [some (az_r 0), some (az_i (zg)), some (az_i (1))]) (st2 := [az_r 5, az_r 0]) (s2 := u) rfl ?_
  have hr : (zo_strike S zg 1).1 = 0 ∨ (zo_strike S zg 1).1 = 1 ∨ (zo_strike S zg 1).1 = 2 ∨ (zo_strike S zg 1).1 = 3 := by unfold zo_strike; repeat (first | exact Or.inl rfl | exact Or.inr (Or.inl rfl) | exact Or.inr (Or.inr (Or.inl rfl)) | exact Or.inr (Or.inr (Or.inr rfl)) | split)
  rcases hr with hr | hr | hr | hr
  · have hku : u 5 0 = 0 := by rw [hu.2.1, hr]; rfl
    refine az_clv (v := some (az_i (u 5 1))) (t := am_up (am_up u 17 1 ((if q = 8 then 0 else q + 1 : Nat) : Int)) 17 2 ((if c = 8 then 8 else c + 1 : Nat) : Int)) (m2 := am_m_X9_conclude) (as := [az_r 0, az_r 5]) (rest := []) 24 rfl rfl ⟨rfl, rfl⟩ (by omega) (zs_X9_conclude_0 (s := u) (by omega) hpu hq hcu hc8 hku) ?_
    refine az_retI rfl rfl ?_
    exact zPc_0 hu hr rfl rfl
  · have hku : u 5 0 = 1 := by rw [hu.2.1, hr]; rfl
    refine az_cl (m2 := am_m_X9_conclude) (as := [az_r 0, az_r 5]) (rest := []) 24 rfl rfl ⟨rfl, rfl⟩ (by omega) (zs_X9_conclude_1 (s := u) (by omega) hpu hq hcu hc8 hku) (fun v t q9 => by cases q9.1) (fun E9 t q9 => ?_)
    obtain ⟨q8, q9⟩ := q9
    cases q8
    rw [q9]
    exact zPc_x hu hr (by omega)
  · have hku : u 5 0 = 2 := by rw [hu.2.1, hr]; rfl
    refine az_cl (m2 := am_m_X9_conclude) (as := [az_r 0, az_r 5]) (rest := []) 24 rfl rfl ⟨rfl, rfl⟩ (by omega) (zs_X9_conclude_2 (s := u) (by omega) hpu hq hcu hc8 hku) (fun v t q9 => by cases q9.1) (fun E9 t q9 => ?_)
    obtain ⟨q8, q9⟩ := q9
    cases q8
    rw [q9]
    exact zPc_x hu hr (by omega)
  · have hku : u 5 0 = 3 := by rw [hu.2.1, hr]; rfl
    refine az_cl (m2 := am_m_X9_conclude) (as := [az_r 0, az_r 5]) (rest := []) 24 rfl rfl ⟨rfl, rfl⟩ (by omega) (zs_X9_conclude_3 (s := u) (by omega) hpu hq hcu hc8 hku) (fun v t q9 => by cases q9.1) (fun E9 t q9 => ?_)
    obtain ⟨q8, q9⟩ := q9
    cases q8
    rw [q9]
    exact zPc_3 hu hr
set_option maxRecDepth 100000 in
set_option maxHeartbeats 800000 in
theorem zs_X9_strike_0 {d : Nat} {s : az_S} (hd : 6 ≤ d) {S : zR} {h : Nat} (hR : zRel (s 3) S) (hI : zInv S h) (hh : h ≤ 10000) (hh9 : h + 1 ≤ 10000) {q c : Nat} (hp : s 17 1 = ((q : Nat) : Int)) (hq : q ≤ 8) (hc : s 17 2 = ((c : Nat) : Int)) (hc8 : c ≤ 8) {zg : Int} (h_zg : az_in zg) : az_R d am_m_X9_strike 0 (az_ini (am_mL am_m_X9_strike) [az_r 0, az_i (zg), az_i (0)]) [] (s) (fun o t => o = zout (zo_strike S zg 0) ∧ zPc s t q c (zo_strike S zg 0)) := by
  have hRs : zRel (zs1 s q 3) S := hR
  refine az_to 0 (pc2 := 0) (lv2 := [some (az_r 0), some (az_i (zg)), some (az_i (0))]) (st2 := []) (s2 := s) rfl ?_
  refine az_to 4 (pc2 := 8) (lv2 := [some (az_r 0), some (az_i (zg)), some (az_i (0))]) (st2 := [az_r 1, az_r 17]) (s2 := s) rfl ?_
  refine az_clv (v := none) (t := am_ur s 19 (va_cpy (s 3) (s 19) 0 (q * 184) 184)) (m2 := am_m_X2_prepare) (as := [az_r 17, az_r 1]) (rest := []) 11 rfl rfl ⟨rfl, rfl⟩ (by omega) (zs_X2_prepare (s := s)  (by omega) hp hq) ?_
  refine az_to 0 (pc2 := 11) (lv2 := [some (az_r 0), some (az_i (zg)), some (az_i (0))]) (st2 := []) (s2 := am_ur s 19 (va_cpy (s 3) (s 19) 0 (q * 184) 184)) rfl ?_
  refine az_to 5 (pc2 := 18) (lv2 := [some (az_r 0), some (az_i (zg)), some (az_i (0))]) (st2 := [az_i (0), az_i (zg), az_r 4, az_r 0]) (s2 := am_ur s 19 (va_cpy (s 3) (s 19) 0 (q * 184) 184)) rfl ?_
  refine az_cl (m2 := am_m_X0_changeStrike) (as := [az_r 4, az_i (zg), az_i (0)]) (rest := [az_r 0]) 21 rfl rfl ⟨rfl, rfl⟩ (by omega) (zs_X0_changeStrike_0 (s := am_ur s 19 (va_cpy (s 3) (s 19) 0 (q * 184) 184)) (zg := zg) (by omega) hRs hI hh (by first | assumption | exact ⟨by omega, by omega⟩)) (fun v1 u q1 => ?_) (fun E u q1 => by cases q1.1)
  obtain ⟨o1, hu⟩ := q1
  cases o1
  have hpu : u 17 1 = ((q : Nat) : Int) := by rw [hu.2.2.2.2 17 (by decide) (by decide)]; exact hp
  have hcu : u 17 2 = ((c : Nat) : Int) := by rw [hu.2.2.2.2 17 (by decide) (by decide)]; exact hc
  refine az_to 0 (pc2 := 21) (lv2 := [some (az_r 0), some (az_i (zg)), some (az_i (0))]) (st2 := [az_r 5, az_r 0]) (s2 := u) rfl ?_
  have hr : (zo_strike S zg 0).1 = 0 ∨ (zo_strike S zg 0).1 = 1 ∨ (zo_strike S zg 0).1 = 2 ∨ (zo_strike S zg 0).1 = 3 := by unfold zo_strike; repeat (first | exact Or.inl rfl | exact Or.inr (Or.inl rfl) | exact Or.inr (Or.inr (Or.inl rfl)) | exact Or.inr (Or.inr (Or.inr rfl)) | split)
  rcases hr with hr | hr | hr | hr
  · have hku : u 5 0 = 0 := by rw [hu.2.1, hr]; rfl
    refine az_clv (v := some (az_i (u 5 1))) (t := am_up (am_up u 17 1 ((if q = 8 then 0 else q + 1 : Nat) : Int)) 17 2 ((if c = 8 then 8 else c + 1 : Nat) : Int)) (m2 := am_m_X9_conclude) (as := [az_r 0, az_r 5]) (rest := []) 24 rfl rfl ⟨rfl, rfl⟩ (by omega) (zs_X9_conclude_0 (s := u) (by omega) hpu hq hcu hc8 hku) ?_
    refine az_retI rfl rfl ?_
    exact zPc_0 hu hr rfl rfl
  · have hku : u 5 0 = 1 := by rw [hu.2.1, hr]; rfl
    refine az_cl (m2 := am_m_X9_conclude) (as := [az_r 0, az_r 5]) (rest := []) 24 rfl rfl ⟨rfl, rfl⟩ (by omega) (zs_X9_conclude_1 (s := u) (by omega) hpu hq hcu hc8 hku) (fun v t q9 => by cases q9.1) (fun E9 t q9 => ?_)
    obtain ⟨q8, q9⟩ := q9
    cases q8
    rw [q9]
    exact zPc_x hu hr (by omega)
  · have hku : u 5 0 = 2 := by rw [hu.2.1, hr]; rfl
    refine az_cl (m2 := am_m_X9_conclude) (as := [az_r 0, az_r 5]) (rest := []) 24 rfl rfl ⟨rfl, rfl⟩ (by omega) (zs_X9_conclude_2 (s := u) (by omega) hpu hq hcu hc8 hku) (fun v t q9 => by cases q9.1) (fun E9 t q9 => ?_)
    obtain ⟨q8, q9⟩ := q9
    cases q8
    rw [q9]
    exact zPc_x hu hr (by omega)
  · have hku : u 5 0 = 3 := by rw [hu.2.1, hr]; rfl
    refine az_cl (m2 := am_m_X9_conclude) (as := [az_r 0, az_r 5]) (rest := []) 24 rfl rfl ⟨rfl, rfl⟩ (by omega) (zs_X9_conclude_3 (s := u) (by omega) hpu hq hcu hc8 hku) (fun v t q9 => by cases q9.1) (fun E9 t q9 => ?_)
    obtain ⟨q8, q9⟩ := q9
    cases q8
    rw [q9]
    exact zPc_3 hu hr
set_option maxRecDepth 100000 in
set_option maxHeartbeats 800000 in
theorem zs_X9_pass {d : Nat} {s : az_S} (hd : 6 ≤ d) {S : zR} {h : Nat} (hR : zRel (s 3) S) (hI : zInv S h) (hh : h ≤ 10000) (hh9 : h + 1 ≤ 10000) {q c : Nat} (hp : s 17 1 = ((q : Nat) : Int)) (hq : q ≤ 8) (hc : s 17 2 = ((c : Nat) : Int)) (hc8 : c ≤ 8) {zh : Int} (h_zh : az_in zh) : az_R d am_m_X9_pass 0 (az_ini (am_mL am_m_X9_pass) [az_r 0, az_i (zh)]) [] (s) (fun o t => o = zout (zo_pass S zh) ∧ zPc s t q c (zo_pass S zh)) := by
  have hRs : zRel (zs1 s q 3) S := hR
  refine az_to 0 (pc2 := 0) (lv2 := [some (az_r 0), some (az_i (zh))]) (st2 := []) (s2 := s) rfl ?_
  refine az_to 4 (pc2 := 8) (lv2 := [some (az_r 0), some (az_i (zh))]) (st2 := [az_r 1, az_r 17]) (s2 := s) rfl ?_
  refine az_clv (v := none) (t := am_ur s 19 (va_cpy (s 3) (s 19) 0 (q * 184) 184)) (m2 := am_m_X2_prepare) (as := [az_r 17, az_r 1]) (rest := []) 11 rfl rfl ⟨rfl, rfl⟩ (by omega) (zs_X2_prepare (s := s)  (by omega) hp hq) ?_
  refine az_to 0 (pc2 := 11) (lv2 := [some (az_r 0), some (az_i (zh))]) (st2 := []) (s2 := am_ur s 19 (va_cpy (s 3) (s 19) 0 (q * 184) 184)) rfl ?_
  refine az_to 4 (pc2 := 17) (lv2 := [some (az_r 0), some (az_i (zh))]) (st2 := [az_i (zh), az_r 4, az_r 0]) (s2 := am_ur s 19 (va_cpy (s 3) (s 19) 0 (q * 184) 184)) rfl ?_
  refine az_cl (m2 := am_m_X0_passHours) (as := [az_r 4, az_i (zh)]) (rest := [az_r 0]) 20 rfl rfl ⟨rfl, rfl⟩ (by omega) (zs_X0_passHours (s := am_ur s 19 (va_cpy (s 3) (s 19) 0 (q * 184) 184)) (zh := zh) (by omega) hRs hI hh (by first | assumption | exact ⟨by omega, by omega⟩)) (fun v1 u q1 => ?_) (fun E u q1 => by cases q1.1)
  obtain ⟨o1, hu⟩ := q1
  cases o1
  have hpu : u 17 1 = ((q : Nat) : Int) := by rw [hu.2.2.2.2 17 (by decide) (by decide)]; exact hp
  have hcu : u 17 2 = ((c : Nat) : Int) := by rw [hu.2.2.2.2 17 (by decide) (by decide)]; exact hc
  refine az_to 0 (pc2 := 20) (lv2 := [some (az_r 0), some (az_i (zh))]) (st2 := [az_r 5, az_r 0]) (s2 := u) rfl ?_
  have hr : (zo_pass S zh).1 = 0 ∨ (zo_pass S zh).1 = 1 ∨ (zo_pass S zh).1 = 2 ∨ (zo_pass S zh).1 = 3 := by unfold zo_pass; repeat (first | exact Or.inl rfl | exact Or.inr (Or.inl rfl) | exact Or.inr (Or.inr (Or.inl rfl)) | exact Or.inr (Or.inr (Or.inr rfl)) | split)
  rcases hr with hr | hr | hr | hr
  · have hku : u 5 0 = 0 := by rw [hu.2.1, hr]; rfl
    refine az_clv (v := some (az_i (u 5 1))) (t := am_up (am_up u 17 1 ((if q = 8 then 0 else q + 1 : Nat) : Int)) 17 2 ((if c = 8 then 8 else c + 1 : Nat) : Int)) (m2 := am_m_X9_conclude) (as := [az_r 0, az_r 5]) (rest := []) 23 rfl rfl ⟨rfl, rfl⟩ (by omega) (zs_X9_conclude_0 (s := u) (by omega) hpu hq hcu hc8 hku) ?_
    refine az_retI rfl rfl ?_
    exact zPc_0 hu hr rfl rfl
  · have hku : u 5 0 = 1 := by rw [hu.2.1, hr]; rfl
    refine az_cl (m2 := am_m_X9_conclude) (as := [az_r 0, az_r 5]) (rest := []) 23 rfl rfl ⟨rfl, rfl⟩ (by omega) (zs_X9_conclude_1 (s := u) (by omega) hpu hq hcu hc8 hku) (fun v t q9 => by cases q9.1) (fun E9 t q9 => ?_)
    obtain ⟨q8, q9⟩ := q9
    cases q8
    rw [q9]
    exact zPc_x hu hr (by omega)
  · have hku : u 5 0 = 2 := by rw [hu.2.1, hr]; rfl
    refine az_cl (m2 := am_m_X9_conclude) (as := [az_r 0, az_r 5]) (rest := []) 23 rfl rfl ⟨rfl, rfl⟩ (by omega) (zs_X9_conclude_2 (s := u) (by omega) hpu hq hcu hc8 hku) (fun v t q9 => by cases q9.1) (fun E9 t q9 => ?_)
    obtain ⟨q8, q9⟩ := q9
    cases q8
    rw [q9]
    exact zPc_x hu hr (by omega)
  · have hku : u 5 0 = 3 := by rw [hu.2.1, hr]; rfl
    refine az_cl (m2 := am_m_X9_conclude) (as := [az_r 0, az_r 5]) (rest := []) 23 rfl rfl ⟨rfl, rfl⟩ (by omega) (zs_X9_conclude_3 (s := u) (by omega) hpu hq hcu hc8 hku) (fun v t q9 => by cases q9.1) (fun E9 t q9 => ?_)
    obtain ⟨q8, q9⟩ := q9
    cases q8
    rw [q9]
    exact zPc_3 hu hr

