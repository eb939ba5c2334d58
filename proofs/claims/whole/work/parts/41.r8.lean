/-! REFERENCE, 8: signs and numbers read from the text; written by program (wip/tools/zg/r8.py) -/
/-- the text typed, to the reference -/
def zTy (s : az_S) (n : Nat) (T : Nat → Int) : Prop := s 34 17 = ((n : Nat) : Int) ∧ n ≤ 60 ∧ (∀ k, k < n → s 41 k = T k) ∧ (∀ k, n ≤ k → T k = 0) ∧ ∀ k, 0 ≤ T k ∧ T k < 65536
def zsn (T : Nat → Int) (n i : Nat) : Int := if i < n then T i else -1
theorem zsn_r {s : az_S} {n : Nat} {T : Nat → Int} (hT : zTy s n T) (i : Nat) : (i < n ∧ zsn T n i = T i ∧ 0 ≤ T i ∧ T i < 65536) ∨ (n ≤ i ∧ zsn T n i = -1 ∧ T i = 0) := by
  have h := hT.2.2.2.2 i
  unfold zsn
  by_cases q : i < n
  · rw [if_pos q]; omega
  · rw [if_neg q]
    have := hT.2.2.2.1 i (by omega)
    omega
/-- what reading a sign or a number leaves -/
def zFt (s t : az_S) : Prop := (∀ j, j ≠ 18 → t 34 j = s 34 j) ∧ ∀ j, j ≠ 34 → j ≠ 42 → t j = s j
def znw (T : Nat → Int) (most i : Nat) : Nat := if ¬ zdg (T i) then 0 else if most = 2 ∧ zdg (T (i + 1)) then 2 else 1
set_option maxRecDepth 100000 in
set_option maxHeartbeats 800000 in
theorem zs_X10_sign {d : Nat} {s : az_S} (hd : 0 ≤ d) {n : Nat} {T : Nat → Int} (hT : zTy s n T) {ix : Nat} (hi : ix ≤ n) (hat : s 34 18 = ((ix : Nat) : Int)) : az_R d am_m_X10_sign 0 (az_ini (am_mL am_m_X10_sign) [az_r 34]) [] (s) (az_ret (some (az_i (zsn T n ix))) (s)) := by
  have h60 : n ≤ 60 := hT.2.1
  have hz0 := zsn_r hT ix
  have hz1 := zsn_r hT (ix + 1)
  refine az_to 0 (pc2 := 0) (lv2 := [some (az_r 34)]) (st2 := []) (s2 := s) rfl ?_
  refine az_to 2 (pc2 := 4) (lv2 := [some (az_r 34)]) (st2 := [az_i (s 34 18)]) (s2 := s) rfl ?_
  refine az_to 0 (pc2 := 4) (lv2 := [some (az_r 34)]) (st2 := [az_i (((ix : Nat) : Int))]) (s2 := s) (by rw [show s 34 18 = (((ix) : Nat) : Int) from hat]; rfl) ?_
  refine az_to 2 (pc2 := 8) (lv2 := [some (az_r 34)]) (st2 := [az_i (s 34 17), az_i (((ix : Nat) : Int))]) (s2 := s) rfl ?_
  refine az_to 0 (pc2 := 8) (lv2 := [some (az_r 34)]) (st2 := [az_i (((n : Nat) : Int)), az_i (((ix : Nat) : Int))]) (s2 := s) (by rw [show s 34 17 = ((n : Nat) : Int) from hT.1]; rfl) ?_
  refine az_if2 23 11 rfl (by decide) (by first | assumption | exact ⟨by omega, by omega⟩) (by first | assumption | exact ⟨by omega, by omega⟩) (fun h1 => ?_) (fun h1 => ?_)
  · have h1 : ((n : Nat) : Int) ≤ ((ix : Nat) : Int) := h1
    refine az_to 1 (pc2 := 24) (lv2 := [some (az_r 34)]) (st2 := [az_i (-1)]) (s2 := s) rfl ?_
    refine az_retI rfl rfl ?_
    exact ⟨by rw [show zsn T n ix = -1 from by omega], rfl⟩
  · have h1 : ¬ (((n : Nat) : Int) ≤ ((ix : Nat) : Int)) := h1
    have hs41 := hT.2.2.1 ix (by omega)
    refine az_to 4 (pc2 := 19) (lv2 := [some (az_r 34)]) (st2 := [az_i (s 34 18), az_r 41]) (s2 := s) rfl ?_
    refine az_to 0 (pc2 := 19) (lv2 := [some (az_r 34)]) (st2 := [az_i (((ix : Nat) : Int)), az_r 41]) (s2 := s) (by rw [show s 34 18 = (((ix) : Nat) : Int) from hat]; rfl) ?_
    refine az_ld_i 20 rfl rfl (by constructor <;> omega) ⟨by decide, rfl⟩ ?_
    refine az_to 0 (pc2 := 20) (lv2 := [some (az_r 34)]) (st2 := [az_i (s 41 ix)]) (s2 := s) rfl ?_
    refine az_to 1 (pc2 := 24) (lv2 := [some (az_r 34)]) (st2 := [az_i (s 41 ix)]) (s2 := s) rfl ?_
    refine az_retI rfl rfl ?_
    exact ⟨by rw [show s 41 ix = zsn T n ix from by omega], rfl⟩
set_option maxRecDepth 100000 in
set_option maxHeartbeats 800000 in
theorem zs_X10_isSign {d : Nat} {s : az_S} (hd : 1 ≤ d) {n : Nat} {T : Nat → Int} (hT : zTy s n T) {ix : Nat} (hi : ix ≤ n) (hat : s 34 18 = ((ix : Nat) : Int)) {ch : Int} (hch : 1 ≤ ch ∧ ch ≤ 127) : az_R d am_m_X10_isSign 0 (az_ini (am_mL am_m_X10_isSign) [az_r 34, az_i (ch)]) [] (s) (fun o t => o = .inl (some (az_i (az_b (T ix = ch)))) ∧ t 34 18 = (((if T ix = ch then ix + 1 else ix) : Nat) : Int) ∧ t 42 = s 42 ∧ zFt s t) := by
  have h60 : n ≤ 60 := hT.2.1
  have hz0 := zsn_r hT ix
  have hz1 := zsn_r hT (ix + 1)
  refine az_to 0 (pc2 := 0) (lv2 := [some (az_r 34), some (az_i (ch)), none]) (st2 := []) (s2 := s) rfl ?_
  refine az_to 1 (pc2 := 1) (lv2 := [some (az_r 34), some (az_i (ch)), none]) (st2 := [az_r 34]) (s2 := s) rfl ?_
  refine az_clv (v := some (az_i (zsn T n ix))) (t := s) (m2 := am_m_X10_sign) (as := [az_r 34]) (rest := []) 4 rfl rfl ⟨rfl, rfl⟩ (by omega) (zs_X10_sign (s := s) (ix := ix) (by omega) hT (by omega) hat) ?_
  refine az_to 0 (pc2 := 4) (lv2 := [some (az_r 34), some (az_i (ch)), none]) (st2 := [az_i (zsn T n ix)]) (s2 := s) rfl ?_
  refine az_to 1 (pc2 := 5) (lv2 := [some (az_r 34), some (az_i (ch)), none]) (st2 := [az_i (ch), az_i (zsn T n ix)]) (s2 := s) rfl ?_
  refine az_if2 12 8 rfl (by decide) (by first | assumption | exact ⟨by omega, by omega⟩) (by first | assumption | exact ⟨by omega, by omega⟩) (fun h1 => ?_) (fun h1 => ?_)
  · have h1 : ¬ zsn T n ix = ch := h1
    refine az_to 5 (pc2 := 19) (lv2 := [some (az_r 34), some (az_i (ch)), some (az_i (0))]) (st2 := [az_i (s 34 18), az_r 34]) (s2 := s) rfl ?_
    refine az_to 0 (pc2 := 19) (lv2 := [some (az_r 34), some (az_i (ch)), some (az_i (0))]) (st2 := [az_i (((ix : Nat) : Int)), az_r 34]) (s2 := s) (by rw [show s 34 18 = (((ix) : Nat) : Int) from hat]; rfl) ?_
    refine az_to 1 (pc2 := 20) (lv2 := [some (az_r 34), some (az_i (ch)), some (az_i (0))]) (st2 := [az_i (0), az_i (((ix : Nat) : Int)), az_r 34]) (s2 := s) rfl ?_
    refine az_ifc 27 23 rfl (by decide) ⟨by decide, by decide⟩ (fun _ => ?_) (fun h => absurd (show az_cnd _ _ _ by unfold az_cnd; decide) h)
    refine az_to 4 (pc2 := 33) (lv2 := [some (az_r 34), some (az_i (ch)), some (az_i (0))]) (st2 := [az_i (0)]) (s2 := am_up s 34 18 ((((ix : Nat) : Int) + 0))) rfl ?_
    refine az_retB rfl rfl (by first | decide | omega | exact Or.inl rfl | exact Or.inr rfl) ?_
    have hd : ¬ T ix = ch := by omega
    refine ⟨by rw [az_b0 hd], ?_, rfl, fun j hj => by simp [am_up, hj], fun j h1 h2 => by funext b; simp [am_up, h1]⟩
    rw [if_neg hd]
    show ((ix : Nat) : Int) + 0 = _
    omega
  · have h1 : zsn T n ix = ch := Decidable.not_not.mp h1
    refine az_to 6 (pc2 := 19) (lv2 := [some (az_r 34), some (az_i (ch)), some (az_i (1))]) (st2 := [az_i (s 34 18), az_r 34]) (s2 := s) rfl ?_
    refine az_to 0 (pc2 := 19) (lv2 := [some (az_r 34), some (az_i (ch)), some (az_i (1))]) (st2 := [az_i (((ix : Nat) : Int)), az_r 34]) (s2 := s) (by rw [show s 34 18 = (((ix) : Nat) : Int) from hat]; rfl) ?_
    refine az_to 1 (pc2 := 20) (lv2 := [some (az_r 34), some (az_i (ch)), some (az_i (1))]) (st2 := [az_i (1), az_i (((ix : Nat) : Int)), az_r 34]) (s2 := s) rfl ?_
    refine az_ifc 27 23 rfl (by decide) ⟨by decide, by decide⟩ (fun h => absurd h (by unfold az_cnd; decide)) (fun _ => ?_)
    refine az_to 5 (pc2 := 33) (lv2 := [some (az_r 34), some (az_i (ch)), some (az_i (1))]) (st2 := [az_i (1)]) (s2 := am_up s 34 18 ((((ix : Nat) : Int) + 1))) rfl ?_
    refine az_retB rfl rfl (by first | decide | omega | exact Or.inl rfl | exact Or.inr rfl) ?_
    have hd : T ix = ch := by omega
    refine ⟨by rw [az_b1 hd], ?_, rfl, fun j hj => by simp [am_up, hj], fun j h1 h2 => by funext b; simp [am_up, h1]⟩
    rw [if_pos hd]
    show ((ix : Nat) : Int) + 1 = _
    omega
set_option maxRecDepth 100000 in
set_option maxHeartbeats 800000 in
theorem zs_X10_isNumber_1 {d : Nat} {s : az_S} (hd : 1 ≤ d) {n : Nat} {T : Nat → Int} (hT : zTy s n T) {ix : Nat} (hi : ix ≤ n) (hat : s 34 18 = ((ix : Nat) : Int)) {pl : Nat} (hpl : pl < 60) : az_R d am_m_X10_isNumber 0 (az_ini (am_mL am_m_X10_isNumber) [az_r 34, az_i (1), az_i (((pl : Nat) : Int))]) [] (s) (fun o t => o = .inl (some (az_i (az_b (zdg (T ix))))) ∧ t 34 18 = ((ix + znw T 1 ix : Nat) : Int) ∧ (zdg (T ix) → t 42 pl = zvl T ix (znw T 1 ix)) ∧ (∀ j, j ≠ pl → t 42 j = s 42 j) ∧ zFt s t) := by
  have h60 : n ≤ 60 := hT.2.1
  have hz0 := zsn_r hT ix
  have hz1 := zsn_r hT (ix + 1)
  refine az_to 0 (pc2 := 0) (lv2 := [some (az_r 34), some (az_i (1)), some (az_i (((pl : Nat) : Int))), none, none]) (st2 := []) (s2 := s) rfl ?_
  refine az_to 6 (pc2 := 8) (lv2 := [some (az_r 34), some (az_i (1)), some (az_i (((pl : Nat) : Int))), some (az_i (0)), some (az_i (0))]) (st2 := [az_i (1), az_i (0)]) (s2 := s) rfl ?_
  refine az_if2 54 11 rfl (by decide) ⟨by decide, by decide⟩ ⟨by decide, by decide⟩ (fun h => absurd h (by unfold az_cnd; decide)) (fun _ => ?_)
  refine az_to 1 (pc2 := 12) (lv2 := [some (az_r 34), some (az_i (1)), some (az_i (((pl : Nat) : Int))), some (az_i (0)), some (az_i (0))]) (st2 := [az_r 34]) (s2 := s) rfl ?_
  refine az_clv (v := some (az_i (zsn T n ix))) (t := s) (m2 := am_m_X10_sign) (as := [az_r 34]) (rest := []) 15 rfl rfl ⟨rfl, rfl⟩ (by omega) (zs_X10_sign (s := s) (ix := ix) (by omega) hT (by omega) hat) ?_
  refine az_to 0 (pc2 := 15) (lv2 := [some (az_r 34), some (az_i (1)), some (az_i (((pl : Nat) : Int))), some (az_i (0)), some (az_i (0))]) (st2 := [az_i (zsn T n ix)]) (s2 := s) rfl ?_
  refine az_to 2 (pc2 := 19) (lv2 := [some (az_r 34), some (az_i (1)), some (az_i (((pl : Nat) : Int))), some (az_i (0)), some (az_i (0))]) (st2 := [az_i (57), az_i (48), az_i (zsn T n ix)]) (s2 := s) rfl ?_
  refine az_clv (v := some (az_i (az_b (48 ≤ (zsn T n ix) ∧ (zsn T n ix) ≤ 57)))) (t := s) (m2 := am_m_X10_isIn) (as := [az_i (zsn T n ix), az_i (48), az_i (57)]) (rest := []) 22 rfl rfl ⟨rfl, rfl⟩ (by omega) (zs_X10_isIn (s := s) (z := (zsn T n ix)) (lo := 48) (hi := 57) (by omega) (by first | assumption | exact ⟨by omega, by omega⟩) ⟨by decide, by decide⟩ ⟨by decide, by decide⟩) ?_
  refine az_to 0 (pc2 := 22) (lv2 := [some (az_r 34), some (az_i (1)), some (az_i (((pl : Nat) : Int))), some (az_i (0)), some (az_i (0))]) (st2 := [az_i (az_b (48 ≤ (zsn T n ix) ∧ (zsn T n ix) ≤ 57))]) (s2 := s) rfl ?_
  refine az_ifbe 54 25 rfl (by decide) (fun h1 => ?_) (fun h1 => ?_)
  · have h1 : ¬ (48 ≤ (zsn T n ix) ∧ (zsn T n ix) ≤ 57) := h1
    refine az_to 4 (pc2 := 60) (lv2 := [some (az_r 34), some (az_i (1)), some (az_i (((pl : Nat) : Int))), some (az_i (0)), some (az_i (0))]) (st2 := [az_i (0), az_i (((pl : Nat) : Int)), az_r 42]) (s2 := s) rfl ?_
    refine az_st_i 61 rfl rfl (by constructor <;> omega) ⟨by decide, rfl⟩ ?_
    refine az_to 1 (pc2 := 63) (lv2 := [some (az_r 34), some (az_i (1)), some (az_i (((pl : Nat) : Int))), some (az_i (0)), some (az_i (0))]) (st2 := [az_i (0)]) (s2 := am_up s 42 pl (0)) rfl ?_
    refine az_ifc 70 66 rfl (by decide) ⟨by decide, by decide⟩ (fun _ => ?_) (fun h => absurd (show az_cnd _ _ _ by unfold az_cnd; decide) h)
    refine az_to 1 (pc2 := 71) (lv2 := [some (az_r 34), some (az_i (1)), some (az_i (((pl : Nat) : Int))), some (az_i (0)), some (az_i (0))]) (st2 := [az_i (0)]) (s2 := am_up s 42 pl (0)) rfl ?_
    refine az_retB rfl rfl (by first | decide | omega | exact Or.inl rfl | exact Or.inr rfl) ?_
    have hd : ¬ zdg (T ix) := by omega
    have hw : znw T 1 ix = 0 := by
      unfold znw
      rw [if_pos hd]
    rw [hw]
    refine ⟨by rw [az_b0 hd], ?_, fun h => absurd h hd, fun j hj => ?_, fun j hj => by simp [am_up, hj], fun j h1 h2 => by funext b; simp [am_up, h1, h2]⟩
    · first | exact hat | (show _ + 1 = _; omega)
    · first | (simp only [am_up, if_true, if_neg hj]; done) | simp [am_up, hj]
  · have h1 : 48 ≤ (zsn T n ix) ∧ (zsn T n ix) ≤ 57 := h1
    refine az_to 4 (pc2 := 30) (lv2 := [some (az_r 34), some (az_i (1)), some (az_i (((pl : Nat) : Int))), some (az_i (0)), some (az_i (0))]) (st2 := [az_r 34, az_i (0)]) (s2 := s) rfl ?_
    refine az_clv (v := some (az_i (zsn T n ix))) (t := s) (m2 := am_m_X10_sign) (as := [az_r 34]) (rest := [az_i (0)]) 33 rfl rfl ⟨rfl, rfl⟩ (by omega) (zs_X10_sign (s := s) (ix := ix) (by omega) hT (by omega) hat) ?_
    refine az_to 0 (pc2 := 33) (lv2 := [some (az_r 34), some (az_i (1)), some (az_i (((pl : Nat) : Int))), some (az_i (0)), some (az_i (0))]) (st2 := [az_i (zsn T n ix), az_i (0)]) (s2 := s) rfl ?_
    refine az_to 7 (pc2 := 43) (lv2 := [some (az_r 34), some (az_i (1)), some (az_i (((pl : Nat) : Int))), some (az_i (((0 + zsn T n ix) - 48))), some (az_i (0))]) (st2 := [az_i (s 34 18), az_r 34]) (s2 := s) rfl ?_
    refine az_to 0 (pc2 := 43) (lv2 := [some (az_r 34), some (az_i (1)), some (az_i (((pl : Nat) : Int))), some (az_i (((0 + zsn T n ix) - 48))), some (az_i (0))]) (st2 := [az_i (((ix : Nat) : Int)), az_r 34]) (s2 := s) (by rw [show s 34 18 = (((ix) : Nat) : Int) from hat]; rfl) ?_
    refine az_to 7 (pc2 := 8) (lv2 := [some (az_r 34), some (az_i (1)), some (az_i (((pl : Nat) : Int))), some (az_i (((0 + zsn T n ix) - 48))), some (az_i (1))]) (st2 := [az_i (1), az_i (1)]) (s2 := am_up s 34 18 ((((ix : Nat) : Int) + 1))) rfl ?_
    refine az_if2 54 11 rfl (by decide) ⟨by decide, by decide⟩ ⟨by decide, by decide⟩ (fun _ => ?_) (fun h => absurd (show az_cnd _ _ _ by unfold az_cnd; decide) h)
    refine az_to 4 (pc2 := 60) (lv2 := [some (az_r 34), some (az_i (1)), some (az_i (((pl : Nat) : Int))), some (az_i (((0 + zsn T n ix) - 48))), some (az_i (1))]) (st2 := [az_i (((0 + zsn T n ix) - 48)), az_i (((pl : Nat) : Int)), az_r 42]) (s2 := am_up s 34 18 ((((ix : Nat) : Int) + 1))) rfl ?_
    refine az_st_i 61 rfl rfl (by constructor <;> omega) ⟨by decide, rfl⟩ ?_
    refine az_to 1 (pc2 := 63) (lv2 := [some (az_r 34), some (az_i (1)), some (az_i (((pl : Nat) : Int))), some (az_i (((0 + zsn T n ix) - 48))), some (az_i (1))]) (st2 := [az_i (1)]) (s2 := am_up (am_up s 34 18 ((((ix : Nat) : Int) + 1))) 42 pl (((0 + zsn T n ix) - 48))) rfl ?_
    refine az_ifc 70 66 rfl (by decide) ⟨by decide, by decide⟩ (fun h => absurd h (by unfold az_cnd; decide)) (fun _ => ?_)
    refine az_to 2 (pc2 := 71) (lv2 := [some (az_r 34), some (az_i (1)), some (az_i (((pl : Nat) : Int))), some (az_i (((0 + zsn T n ix) - 48))), some (az_i (1))]) (st2 := [az_i (1)]) (s2 := am_up (am_up s 34 18 ((((ix : Nat) : Int) + 1))) 42 pl (((0 + zsn T n ix) - 48))) rfl ?_
    refine az_retB rfl rfl (by first | decide | omega | exact Or.inl rfl | exact Or.inr rfl) ?_
    have hd : zdg (T ix) := by omega
    have hw : znw T 1 ix = 1 := by
      unfold znw
      rw [if_neg (Decidable.not_not.mpr hd), if_neg (by omega)]
    rw [hw]
    refine ⟨by rw [az_b1 hd], ?_, fun _ => by
      show _ = zvl T ix 1
      simp only [am_up, if_true]
      unfold zvl
      rw [if_neg (Decidable.not_not.mpr hd), if_neg (by omega)]
      omega, fun j hj => ?_, fun j hj => by simp [am_up, hj], fun j h1 h2 => by funext b; simp [am_up, h1, h2]⟩
    · first | exact hat | (show _ + 1 = _; omega)
    · first | (simp only [am_up, if_true, if_neg hj]; done) | simp [am_up, hj]
set_option maxRecDepth 100000 in
set_option maxHeartbeats 800000 in
theorem zs_X10_isNumber_2 {d : Nat} {s : az_S} (hd : 1 ≤ d) {n : Nat} {T : Nat → Int} (hT : zTy s n T) {ix : Nat} (hi : ix ≤ n) (hat : s 34 18 = ((ix : Nat) : Int)) {pl : Nat} (hpl : pl < 60) : az_R d am_m_X10_isNumber 0 (az_ini (am_mL am_m_X10_isNumber) [az_r 34, az_i (2), az_i (((pl : Nat) : Int))]) [] (s) (fun o t => o = .inl (some (az_i (az_b (zdg (T ix))))) ∧ t 34 18 = ((ix + znw T 2 ix : Nat) : Int) ∧ (zdg (T ix) → t 42 pl = zvl T ix (znw T 2 ix)) ∧ (∀ j, j ≠ pl → t 42 j = s 42 j) ∧ zFt s t) := by
  have h60 : n ≤ 60 := hT.2.1
  have hz0 := zsn_r hT ix
  have hz1 := zsn_r hT (ix + 1)
  refine az_to 0 (pc2 := 0) (lv2 := [some (az_r 34), some (az_i (2)), some (az_i (((pl : Nat) : Int))), none, none]) (st2 := []) (s2 := s) rfl ?_
  refine az_to 6 (pc2 := 8) (lv2 := [some (az_r 34), some (az_i (2)), some (az_i (((pl : Nat) : Int))), some (az_i (0)), some (az_i (0))]) (st2 := [az_i (2), az_i (0)]) (s2 := s) rfl ?_
  refine az_if2 54 11 rfl (by decide) ⟨by decide, by decide⟩ ⟨by decide, by decide⟩ (fun h => absurd h (by unfold az_cnd; decide)) (fun _ => ?_)
  refine az_to 1 (pc2 := 12) (lv2 := [some (az_r 34), some (az_i (2)), some (az_i (((pl : Nat) : Int))), some (az_i (0)), some (az_i (0))]) (st2 := [az_r 34]) (s2 := s) rfl ?_
  refine az_clv (v := some (az_i (zsn T n ix))) (t := s) (m2 := am_m_X10_sign) (as := [az_r 34]) (rest := []) 15 rfl rfl ⟨rfl, rfl⟩ (by omega) (zs_X10_sign (s := s) (ix := ix) (by omega) hT (by omega) hat) ?_
  refine az_to 0 (pc2 := 15) (lv2 := [some (az_r 34), some (az_i (2)), some (az_i (((pl : Nat) : Int))), some (az_i (0)), some (az_i (0))]) (st2 := [az_i (zsn T n ix)]) (s2 := s) rfl ?_
  refine az_to 2 (pc2 := 19) (lv2 := [some (az_r 34), some (az_i (2)), some (az_i (((pl : Nat) : Int))), some (az_i (0)), some (az_i (0))]) (st2 := [az_i (57), az_i (48), az_i (zsn T n ix)]) (s2 := s) rfl ?_
  refine az_clv (v := some (az_i (az_b (48 ≤ (zsn T n ix) ∧ (zsn T n ix) ≤ 57)))) (t := s) (m2 := am_m_X10_isIn) (as := [az_i (zsn T n ix), az_i (48), az_i (57)]) (rest := []) 22 rfl rfl ⟨rfl, rfl⟩ (by omega) (zs_X10_isIn (s := s) (z := (zsn T n ix)) (lo := 48) (hi := 57) (by omega) (by first | assumption | exact ⟨by omega, by omega⟩) ⟨by decide, by decide⟩ ⟨by decide, by decide⟩) ?_
  refine az_to 0 (pc2 := 22) (lv2 := [some (az_r 34), some (az_i (2)), some (az_i (((pl : Nat) : Int))), some (az_i (0)), some (az_i (0))]) (st2 := [az_i (az_b (48 ≤ (zsn T n ix) ∧ (zsn T n ix) ≤ 57))]) (s2 := s) rfl ?_
  refine az_ifbe 54 25 rfl (by decide) (fun h1 => ?_) (fun h1 => ?_)
  · have h1 : ¬ (48 ≤ (zsn T n ix) ∧ (zsn T n ix) ≤ 57) := h1
    refine az_to 4 (pc2 := 60) (lv2 := [some (az_r 34), some (az_i (2)), some (az_i (((pl : Nat) : Int))), some (az_i (0)), some (az_i (0))]) (st2 := [az_i (0), az_i (((pl : Nat) : Int)), az_r 42]) (s2 := s) rfl ?_
    refine az_st_i 61 rfl rfl (by constructor <;> omega) ⟨by decide, rfl⟩ ?_
    refine az_to 1 (pc2 := 63) (lv2 := [some (az_r 34), some (az_i (2)), some (az_i (((pl : Nat) : Int))), some (az_i (0)), some (az_i (0))]) (st2 := [az_i (0)]) (s2 := am_up s 42 pl (0)) rfl ?_
    refine az_ifc 70 66 rfl (by decide) ⟨by decide, by decide⟩ (fun _ => ?_) (fun h => absurd (show az_cnd _ _ _ by unfold az_cnd; decide) h)
    refine az_to 1 (pc2 := 71) (lv2 := [some (az_r 34), some (az_i (2)), some (az_i (((pl : Nat) : Int))), some (az_i (0)), some (az_i (0))]) (st2 := [az_i (0)]) (s2 := am_up s 42 pl (0)) rfl ?_
    refine az_retB rfl rfl (by first | decide | omega | exact Or.inl rfl | exact Or.inr rfl) ?_
    have hd : ¬ zdg (T ix) := by omega
    have hw : znw T 2 ix = 0 := by
      unfold znw
      rw [if_pos hd]
    rw [hw]
    refine ⟨by rw [az_b0 hd], ?_, fun h => absurd h hd, fun j hj => ?_, fun j hj => by simp [am_up, hj], fun j h1 h2 => by funext b; simp [am_up, h1, h2]⟩
    · first | exact hat | (show _ + 1 = _; omega)
    · first | (simp only [am_up, if_true, if_neg hj]; done) | simp [am_up, hj]
  · have h1 : 48 ≤ (zsn T n ix) ∧ (zsn T n ix) ≤ 57 := h1
    refine az_to 4 (pc2 := 30) (lv2 := [some (az_r 34), some (az_i (2)), some (az_i (((pl : Nat) : Int))), some (az_i (0)), some (az_i (0))]) (st2 := [az_r 34, az_i (0)]) (s2 := s) rfl ?_
    refine az_clv (v := some (az_i (zsn T n ix))) (t := s) (m2 := am_m_X10_sign) (as := [az_r 34]) (rest := [az_i (0)]) 33 rfl rfl ⟨rfl, rfl⟩ (by omega) (zs_X10_sign (s := s) (ix := ix) (by omega) hT (by omega) hat) ?_
    refine az_to 0 (pc2 := 33) (lv2 := [some (az_r 34), some (az_i (2)), some (az_i (((pl : Nat) : Int))), some (az_i (0)), some (az_i (0))]) (st2 := [az_i (zsn T n ix), az_i (0)]) (s2 := s) rfl ?_
    refine az_to 7 (pc2 := 43) (lv2 := [some (az_r 34), some (az_i (2)), some (az_i (((pl : Nat) : Int))), some (az_i (((0 + zsn T n ix) - 48))), some (az_i (0))]) (st2 := [az_i (s 34 18), az_r 34]) (s2 := s) rfl ?_
    refine az_to 0 (pc2 := 43) (lv2 := [some (az_r 34), some (az_i (2)), some (az_i (((pl : Nat) : Int))), some (az_i (((0 + zsn T n ix) - 48))), some (az_i (0))]) (st2 := [az_i (((ix : Nat) : Int)), az_r 34]) (s2 := s) (by rw [show s 34 18 = (((ix) : Nat) : Int) from hat]; rfl) ?_
    refine az_to 7 (pc2 := 8) (lv2 := [some (az_r 34), some (az_i (2)), some (az_i (((pl : Nat) : Int))), some (az_i (((0 + zsn T n ix) - 48))), some (az_i (1))]) (st2 := [az_i (2), az_i (1)]) (s2 := am_up s 34 18 ((((ix : Nat) : Int) + 1))) rfl ?_
    refine az_if2 54 11 rfl (by decide) ⟨by decide, by decide⟩ ⟨by decide, by decide⟩ (fun h => absurd h (by unfold az_cnd; decide)) (fun _ => ?_)
    refine az_to 1 (pc2 := 12) (lv2 := [some (az_r 34), some (az_i (2)), some (az_i (((pl : Nat) : Int))), some (az_i (((0 + zsn T n ix) - 48))), some (az_i (1))]) (st2 := [az_r 34]) (s2 := am_up s 34 18 ((((ix : Nat) : Int) + 1))) rfl ?_
    refine az_clv (v := some (az_i (zsn T n (ix + 1)))) (t := am_up s 34 18 ((((ix : Nat) : Int) + 1))) (m2 := am_m_X10_sign) (as := [az_r 34]) (rest := []) 15 rfl rfl ⟨rfl, rfl⟩ (by omega) (zs_X10_sign (s := am_up s 34 18 ((((ix : Nat) : Int) + 1))) (ix := (ix + 1)) (by omega) hT (by omega) (show (am_up s 34 18 ((((ix : Nat) : Int) + 1))) 34 18 = ((((ix + 1)) : Nat) : Int) from rfl)) ?_
    refine az_to 0 (pc2 := 15) (lv2 := [some (az_r 34), some (az_i (2)), some (az_i (((pl : Nat) : Int))), some (az_i (((0 + zsn T n ix) - 48))), some (az_i (1))]) (st2 := [az_i (zsn T n (ix + 1))]) (s2 := am_up s 34 18 ((((ix : Nat) : Int) + 1))) rfl ?_
    refine az_to 2 (pc2 := 19) (lv2 := [some (az_r 34), some (az_i (2)), some (az_i (((pl : Nat) : Int))), some (az_i (((0 + zsn T n ix) - 48))), some (az_i (1))]) (st2 := [az_i (57), az_i (48), az_i (zsn T n (ix + 1))]) (s2 := am_up s 34 18 ((((ix : Nat) : Int) + 1))) rfl ?_
    refine az_clv (v := some (az_i (az_b (48 ≤ (zsn T n (ix + 1)) ∧ (zsn T n (ix + 1)) ≤ 57)))) (t := am_up s 34 18 ((((ix : Nat) : Int) + 1))) (m2 := am_m_X10_isIn) (as := [az_i (zsn T n (ix + 1)), az_i (48), az_i (57)]) (rest := []) 22 rfl rfl ⟨rfl, rfl⟩ (by omega) (zs_X10_isIn (s := am_up s 34 18 ((((ix : Nat) : Int) + 1))) (z := (zsn T n (ix + 1))) (lo := 48) (hi := 57) (by omega) (by first | assumption | exact ⟨by omega, by omega⟩) ⟨by decide, by decide⟩ ⟨by decide, by decide⟩) ?_
    refine az_to 0 (pc2 := 22) (lv2 := [some (az_r 34), some (az_i (2)), some (az_i (((pl : Nat) : Int))), some (az_i (((0 + zsn T n ix) - 48))), some (az_i (1))]) (st2 := [az_i (az_b (48 ≤ (zsn T n (ix + 1)) ∧ (zsn T n (ix + 1)) ≤ 57))]) (s2 := am_up s 34 18 ((((ix : Nat) : Int) + 1))) rfl ?_
    refine az_ifbe 54 25 rfl (by decide) (fun h2 => ?_) (fun h2 => ?_)
    · have h2 : ¬ (48 ≤ (zsn T n (ix + 1)) ∧ (zsn T n (ix + 1)) ≤ 57) := h2
      refine az_to 4 (pc2 := 60) (lv2 := [some (az_r 34), some (az_i (2)), some (az_i (((pl : Nat) : Int))), some (az_i (((0 + zsn T n ix) - 48))), some (az_i (1))]) (st2 := [az_i (((0 + zsn T n ix) - 48)), az_i (((pl : Nat) : Int)), az_r 42]) (s2 := am_up s 34 18 ((((ix : Nat) : Int) + 1))) rfl ?_
      refine az_st_i 61 rfl rfl (by constructor <;> omega) ⟨by decide, rfl⟩ ?_
      refine az_to 1 (pc2 := 63) (lv2 := [some (az_r 34), some (az_i (2)), some (az_i (((pl : Nat) : Int))), some (az_i (((0 + zsn T n ix) - 48))), some (az_i (1))]) (st2 := [az_i (1)]) (s2 := am_up (am_up s 34 18 ((((ix : Nat) : Int) + 1))) 42 pl (((0 + zsn T n ix) - 48))) rfl ?_
      refine az_ifc 70 66 rfl (by decide) ⟨by decide, by decide⟩ (fun h => absurd h (by unfold az_cnd; decide)) (fun _ => ?_)
      refine az_to 2 (pc2 := 71) (lv2 := [some (az_r 34), some (az_i (2)), some (az_i (((pl : Nat) : Int))), some (az_i (((0 + zsn T n ix) - 48))), some (az_i (1))]) (st2 := [az_i (1)]) (s2 := am_up (am_up s 34 18 ((((ix : Nat) : Int) + 1))) 42 pl (((0 + zsn T n ix) - 48))) rfl ?_
      refine az_retB rfl rfl (by first | decide | omega | exact Or.inl rfl | exact Or.inr rfl) ?_
      have hd : zdg (T ix) := by omega
      have hw : znw T 2 ix = 1 := by
        unfold znw
        rw [if_neg (Decidable.not_not.mpr hd), if_neg (by omega)]
      rw [hw]
      refine ⟨by rw [az_b1 hd], ?_, fun _ => by
        show _ = zvl T ix 1
        simp only [am_up, if_true]
        unfold zvl
        rw [if_neg (Decidable.not_not.mpr hd), if_neg (by omega)]
        omega, fun j hj => ?_, fun j hj => by simp [am_up, hj], fun j h1 h2 => by funext b; simp [am_up, h1, h2]⟩
      · first | exact hat | (show _ + 1 = _; omega)
      · first | (simp only [am_up, if_true, if_neg hj]; done) | simp [am_up, hj]
    · have h2 : 48 ≤ (zsn T n (ix + 1)) ∧ (zsn T n (ix + 1)) ≤ 57 := h2
      refine az_to 4 (pc2 := 30) (lv2 := [some (az_r 34), some (az_i (2)), some (az_i (((pl : Nat) : Int))), some (az_i (((0 + zsn T n ix) - 48))), some (az_i (1))]) (st2 := [az_r 34, az_i ((10 * ((0 + zsn T n ix) - 48)))]) (s2 := am_up s 34 18 ((((ix : Nat) : Int) + 1))) rfl ?_
      refine az_clv (v := some (az_i (zsn T n (ix + 1)))) (t := am_up s 34 18 ((((ix : Nat) : Int) + 1))) (m2 := am_m_X10_sign) (as := [az_r 34]) (rest := [az_i ((10 * ((0 + zsn T n ix) - 48)))]) 33 rfl rfl ⟨rfl, rfl⟩ (by omega) (zs_X10_sign (s := am_up s 34 18 ((((ix : Nat) : Int) + 1))) (ix := (ix + 1)) (by omega) hT (by omega) (show (am_up s 34 18 ((((ix : Nat) : Int) + 1))) 34 18 = ((((ix + 1)) : Nat) : Int) from rfl)) ?_
      refine az_to 0 (pc2 := 33) (lv2 := [some (az_r 34), some (az_i (2)), some (az_i (((pl : Nat) : Int))), some (az_i (((0 + zsn T n ix) - 48))), some (az_i (1))]) (st2 := [az_i (zsn T n (ix + 1)), az_i ((10 * ((0 + zsn T n ix) - 48)))]) (s2 := am_up s 34 18 ((((ix : Nat) : Int) + 1))) rfl ?_
      refine az_to 7 (pc2 := 43) (lv2 := [some (az_r 34), some (az_i (2)), some (az_i (((pl : Nat) : Int))), some (az_i ((((10 * ((0 + zsn T n ix) - 48)) + zsn T n (ix + 1)) - 48))), some (az_i (1))]) (st2 := [az_i ((am_up s 34 18 ((((ix : Nat) : Int) + 1))) 34 18), az_r 34]) (s2 := am_up s 34 18 ((((ix : Nat) : Int) + 1))) rfl ?_
      refine az_to 0 (pc2 := 43) (lv2 := [some (az_r 34), some (az_i (2)), some (az_i (((pl : Nat) : Int))), some (az_i ((((10 * ((0 + zsn T n ix) - 48)) + zsn T n (ix + 1)) - 48))), some (az_i (1))]) (st2 := [az_i ((((ix + 1) : Nat) : Int)), az_r 34]) (s2 := am_up s 34 18 ((((ix : Nat) : Int) + 1))) (by rw [show (am_up s 34 18 ((((ix : Nat) : Int) + 1))) 34 18 = ((((ix + 1)) : Nat) : Int) from rfl]; rfl) ?_
      refine az_to 7 (pc2 := 8) (lv2 := [some (az_r 34), some (az_i (2)), some (az_i (((pl : Nat) : Int))), some (az_i ((((10 * ((0 + zsn T n ix) - 48)) + zsn T n (ix + 1)) - 48))), some (az_i (2))]) (st2 := [az_i (2), az_i (2)]) (s2 := am_up (am_up s 34 18 ((((ix : Nat) : Int) + 1))) 34 18 (((((ix + 1) : Nat) : Int) + 1))) rfl ?_
      refine az_if2 54 11 rfl (by decide) ⟨by decide, by decide⟩ ⟨by decide, by decide⟩ (fun _ => ?_) (fun h => absurd (show az_cnd _ _ _ by unfold az_cnd; decide) h)
      refine az_to 4 (pc2 := 60) (lv2 := [some (az_r 34), some (az_i (2)), some (az_i (((pl : Nat) : Int))), some (az_i ((((10 * ((0 + zsn T n ix) - 48)) + zsn T n (ix + 1)) - 48))), some (az_i (2))]) (st2 := [az_i ((((10 * ((0 + zsn T n ix) - 48)) + zsn T n (ix + 1)) - 48)), az_i (((pl : Nat) : Int)), az_r 42]) (s2 := am_up (am_up s 34 18 ((((ix : Nat) : Int) + 1))) 34 18 (((((ix + 1) : Nat) : Int) + 1))) rfl ?_
      refine az_st_i 61 rfl rfl (by constructor <;> omega) ⟨by decide, rfl⟩ ?_
      refine az_to 1 (pc2 := 63) (lv2 := [some (az_r 34), some (az_i (2)), some (az_i (((pl : Nat) : Int))), some (az_i ((((10 * ((0 + zsn T n ix) - 48)) + zsn T n (ix + 1)) - 48))), some (az_i (2))]) (st2 := [az_i (2)]) (s2 := am_up (am_up (am_up s 34 18 ((((ix : Nat) : Int) + 1))) 34 18 (((((ix + 1) : Nat) : Int) + 1))) 42 pl ((((10 * ((0 + zsn T n ix) - 48)) + zsn T n (ix + 1)) - 48))) rfl ?_
      refine az_ifc 70 66 rfl (by decide) ⟨by decide, by decide⟩ (fun h => absurd h (by unfold az_cnd; decide)) (fun _ => ?_)
      refine az_to 2 (pc2 := 71) (lv2 := [some (az_r 34), some (az_i (2)), some (az_i (((pl : Nat) : Int))), some (az_i ((((10 * ((0 + zsn T n ix) - 48)) + zsn T n (ix + 1)) - 48))), some (az_i (2))]) (st2 := [az_i (1)]) (s2 := am_up (am_up (am_up s 34 18 ((((ix : Nat) : Int) + 1))) 34 18 (((((ix + 1) : Nat) : Int) + 1))) 42 pl ((((10 * ((0 + zsn T n ix) - 48)) + zsn T n (ix + 1)) - 48))) rfl ?_
      refine az_retB rfl rfl (by first | decide | omega | exact Or.inl rfl | exact Or.inr rfl) ?_
      have hd : zdg (T ix) := by omega
      have hw : znw T 2 ix = 2 := by
        unfold znw
        rw [if_neg (Decidable.not_not.mpr hd), if_pos ⟨by omega, by omega⟩]
      rw [hw]
      refine ⟨by rw [az_b1 hd], ?_, fun _ => by
        show _ = zvl T ix 2
        simp only [am_up, if_true]
        unfold zvl
        rw [if_neg (Decidable.not_not.mpr hd), if_pos rfl]
        omega, fun j hj => ?_, fun j hj => by simp [am_up, hj], fun j h1 h2 => by funext b; simp [am_up, h1, h2]⟩
      · first | exact hat | (show _ + 1 = _; omega)
      · first | (simp only [am_up, if_true, if_neg hj]; done) | simp [am_up, hj]
