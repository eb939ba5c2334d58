/-! REFERENCE, 9: arguments read from the text; written by program (wip/tools/zg/r9.py) -/
theorem zFt_t {s t u : az_S} (h1 : zFt s t) (h2 : zFt t u) : zFt s u := ⟨fun j hj => by rw [h2.1 j hj, h1.1 j hj], fun j j1 j2 => by rw [h2.2 j j1 j2, h1.2 j j1 j2]⟩
theorem zFt_r (s : az_S) : zFt s s := ⟨fun _ _ => rfl, fun _ _ _ => rfl⟩
theorem zTy_t {s t : az_S} {n : Nat} {T : Nat → Int} (hT : zTy s n T) (h : zFt s t) : zTy t n T := ⟨by rw [h.1 17 (by decide)]; exact hT.1, hT.2.1, fun k hk => by rw [h.2 41 (by decide) (by decide)]; exact hT.2.2.1 k hk, hT.2.2.2⟩
theorem zFt_42 (s : az_S) (p : Nat) (v : Int) : zFt s (am_up s 42 p v) := ⟨fun j _ => by simp [am_up], fun j j1 j2 => by funext b; simp [am_up, j2]⟩
set_option maxRecDepth 100000 in
set_option maxHeartbeats 800000 in
theorem zs_X10_isNext_1 {d : Nat} {s : az_S} (hd : 3 ≤ d) {n : Nat} {T : Nat → Int} (hT : zTy s n T) {ix : Nat} (hi : ix ≤ n) (hat : s 34 18 = ((ix : Nat) : Int)) {pl : Nat} (hpl : pl < 60) : az_R d am_m_X10_isNext 0 (az_ini (am_mL am_m_X10_isNext) [az_r 34, az_i (1), az_i (((pl : Nat) : Int))]) [] (s) (fun o t => o = .inl (some (az_i (az_b (T ix = 32 ∧ zdg (T (ix + 1)))))) ∧ t 34 18 = (((if T ix = 32 then ix + 1 + znw T 1 (ix + 1) else ix) : Nat) : Int) ∧ ((T ix = 32 ∧ zdg (T (ix + 1))) → t 42 pl = zvl T (ix + 1) (znw T 1 (ix + 1))) ∧ (∀ j, j ≠ pl → t 42 j = s 42 j) ∧ zFt s t) := by
  have h60 : n ≤ 60 := hT.2.1
  have hz0 := zsn_r hT ix
  have hz1 := zsn_r hT (ix + 1)
  refine az_to 0 (pc2 := 0) (lv2 := [some (az_r 34), some (az_i (1)), some (az_i (((pl : Nat) : Int)))]) (st2 := []) (s2 := s) rfl ?_
  refine az_to 2 (pc2 := 3) (lv2 := [some (az_r 34), some (az_i (1)), some (az_i (((pl : Nat) : Int)))]) (st2 := [az_i (32), az_r 34]) (s2 := s) rfl ?_
  refine az_cl (m2 := am_m_X10_isSign) (as := [az_r 34, az_i (32)]) (rest := []) 6 rfl rfl ⟨rfl, rfl⟩ (by omega) (zs_X10_isSign (s := s) (ch := 32) (ix := ix) (by omega) hT (by omega) hat (by omega)) (fun v1 t1 q1 => ?_) (fun E t1 q1 => by cases q1.1)
  obtain ⟨o1, qa1, qb1, qc1⟩ := q1
  cases o1
  have hT1 := zTy_t (s := s) hT qc1
  refine az_to 0 (pc2 := 6) (lv2 := [some (az_r 34), some (az_i (1)), some (az_i (((pl : Nat) : Int)))]) (st2 := [az_i (az_b (T ix = 32))]) (s2 := t1) rfl ?_
  refine az_ifbe 22 9 rfl (by decide) (fun h2 => ?_) (fun h2 => ?_)
  · have h2 : ¬ (T ix = 32) := h2
    refine az_to 1 (pc2 := 23) (lv2 := [some (az_r 34), some (az_i (1)), some (az_i (((pl : Nat) : Int)))]) (st2 := [az_i (0)]) (s2 := t1) rfl ?_
    refine az_retB rfl rfl (by first | decide | omega | exact Or.inl rfl | exact Or.inr rfl) ?_
    refine ⟨by rw [az_b0 (by intro q; omega)], by rw [qa1, if_neg (by assumption), if_neg (by assumption)], fun h => absurd h.1 (by assumption), fun j hj => by rw [qb1], qc1⟩
  · have h2 : T ix = 32 := h2
    have hat2 : t1 34 18 = ((ix + 1 : Nat) : Int) := by rw [qa1, if_pos h2]
    refine az_to 3 (pc2 := 12) (lv2 := [some (az_r 34), some (az_i (1)), some (az_i (((pl : Nat) : Int)))]) (st2 := [az_i (((pl : Nat) : Int)), az_i (1), az_r 34]) (s2 := t1) rfl ?_
    refine az_cl (m2 := am_m_X10_isNumber) (as := [az_r 34, az_i (1), az_i (((pl : Nat) : Int))]) (rest := []) 15 rfl rfl ⟨rfl, rfl⟩ (by omega) (zs_X10_isNumber_1 (s := t1) (pl := pl) (ix := (ix + 1)) (by omega) hT1 (by omega) hat2 (by omega)) (fun v3 t3 q3 => ?_) (fun E t3 q3 => by cases q3.1)
    obtain ⟨o3, qa3, qv3, qb3, qc3⟩ := q3
    cases o3
    have hT3 := zTy_t (s := t1) hT1 qc3
    refine az_to 0 (pc2 := 15) (lv2 := [some (az_r 34), some (az_i (1)), some (az_i (((pl : Nat) : Int)))]) (st2 := [az_i (az_b (zdg (T (ix + 1))))]) (s2 := t3) rfl ?_
    refine az_ifbe 22 18 rfl (by decide) (fun h4 => ?_) (fun h4 => ?_)
    · have h4 : ¬ (zdg (T (ix + 1))) := h4
      refine az_to 1 (pc2 := 23) (lv2 := [some (az_r 34), some (az_i (1)), some (az_i (((pl : Nat) : Int)))]) (st2 := [az_i (0)]) (s2 := t3) rfl ?_
      refine az_retB rfl rfl (by first | decide | omega | exact Or.inl rfl | exact Or.inr rfl) ?_
      refine ⟨by rw [az_b0 (by omega)], by rw [qa3, if_pos (by assumption)], fun h => qv3 h.2, fun j hj => by rw [qb3 j hj, qb1], zFt_t qc1 qc3⟩
    · have h4 : zdg (T (ix + 1)) := h4
      refine az_to 2 (pc2 := 23) (lv2 := [some (az_r 34), some (az_i (1)), some (az_i (((pl : Nat) : Int)))]) (st2 := [az_i (1)]) (s2 := t3) rfl ?_
      refine az_retB rfl rfl (by first | decide | omega | exact Or.inl rfl | exact Or.inr rfl) ?_
      refine ⟨by rw [az_b1 (by omega)], by rw [qa3, if_pos (by assumption)], fun h => qv3 h.2, fun j hj => by rw [qb3 j hj, qb1], zFt_t qc1 qc3⟩
set_option maxRecDepth 100000 in
set_option maxHeartbeats 800000 in
theorem zs_X10_isNext_2 {d : Nat} {s : az_S} (hd : 3 ≤ d) {n : Nat} {T : Nat → Int} (hT : zTy s n T) {ix : Nat} (hi : ix ≤ n) (hat : s 34 18 = ((ix : Nat) : Int)) {pl : Nat} (hpl : pl < 60) : az_R d am_m_X10_isNext 0 (az_ini (am_mL am_m_X10_isNext) [az_r 34, az_i (2), az_i (((pl : Nat) : Int))]) [] (s) (fun o t => o = .inl (some (az_i (az_b (T ix = 32 ∧ zdg (T (ix + 1)))))) ∧ t 34 18 = (((if T ix = 32 then ix + 1 + znw T 2 (ix + 1) else ix) : Nat) : Int) ∧ ((T ix = 32 ∧ zdg (T (ix + 1))) → t 42 pl = zvl T (ix + 1) (znw T 2 (ix + 1))) ∧ (∀ j, j ≠ pl → t 42 j = s 42 j) ∧ zFt s t) := by
  have h60 : n ≤ 60 := hT.2.1
  have hz0 := zsn_r hT ix
  have hz1 := zsn_r hT (ix + 1)
  refine az_to 0 (pc2 := 0) (lv2 := [some (az_r 34), some (az_i (2)), some (az_i (((pl : Nat) : Int)))]) (st2 := []) (s2 := s) rfl ?_
  refine az_to 2 (pc2 := 3) (lv2 := [some (az_r 34), some (az_i (2)), some (az_i (((pl : Nat) : Int)))]) (st2 := [az_i (32), az_r 34]) (s2 := s) rfl ?_
  refine az_cl (m2 := am_m_X10_isSign) (as := [az_r 34, az_i (32)]) (rest := []) 6 rfl rfl ⟨rfl, rfl⟩ (by omega) (zs_X10_isSign (s := s) (ch := 32) (ix := ix) (by omega) hT (by omega) hat (by omega)) (fun v1 t1 q1 => ?_) (fun E t1 q1 => by cases q1.1)
  obtain ⟨o1, qa1, qb1, qc1⟩ := q1
  cases o1
  have hT1 := zTy_t (s := s) hT qc1
  refine az_to 0 (pc2 := 6) (lv2 := [some (az_r 34), some (az_i (2)), some (az_i (((pl : Nat) : Int)))]) (st2 := [az_i (az_b (T ix = 32))]) (s2 := t1) rfl ?_
  refine az_ifbe 22 9 rfl (by decide) (fun h2 => ?_) (fun h2 => ?_)
  · have h2 : ¬ (T ix = 32) := h2
    refine az_to 1 (pc2 := 23) (lv2 := [some (az_r 34), some (az_i (2)), some (az_i (((pl : Nat) : Int)))]) (st2 := [az_i (0)]) (s2 := t1) rfl ?_
    refine az_retB rfl rfl (by first | decide | omega | exact Or.inl rfl | exact Or.inr rfl) ?_
    refine ⟨by rw [az_b0 (by intro q; omega)], by rw [qa1, if_neg (by assumption), if_neg (by assumption)], fun h => absurd h.1 (by assumption), fun j hj => by rw [qb1], qc1⟩
  · have h2 : T ix = 32 := h2
    have hat2 : t1 34 18 = ((ix + 1 : Nat) : Int) := by rw [qa1, if_pos h2]
    refine az_to 3 (pc2 := 12) (lv2 := [some (az_r 34), some (az_i (2)), some (az_i (((pl : Nat) : Int)))]) (st2 := [az_i (((pl : Nat) : Int)), az_i (2), az_r 34]) (s2 := t1) rfl ?_
    refine az_cl (m2 := am_m_X10_isNumber) (as := [az_r 34, az_i (2), az_i (((pl : Nat) : Int))]) (rest := []) 15 rfl rfl ⟨rfl, rfl⟩ (by omega) (zs_X10_isNumber_2 (s := t1) (pl := pl) (ix := (ix + 1)) (by omega) hT1 (by omega) hat2 (by omega)) (fun v3 t3 q3 => ?_) (fun E t3 q3 => by cases q3.1)
    obtain ⟨o3, qa3, qv3, qb3, qc3⟩ := q3
    cases o3
    have hT3 := zTy_t (s := t1) hT1 qc3
    refine az_to 0 (pc2 := 15) (lv2 := [some (az_r 34), some (az_i (2)), some (az_i (((pl : Nat) : Int)))]) (st2 := [az_i (az_b (zdg (T (ix + 1))))]) (s2 := t3) rfl ?_
    refine az_ifbe 22 18 rfl (by decide) (fun h4 => ?_) (fun h4 => ?_)
    · have h4 : ¬ (zdg (T (ix + 1))) := h4
      refine az_to 1 (pc2 := 23) (lv2 := [some (az_r 34), some (az_i (2)), some (az_i (((pl : Nat) : Int)))]) (st2 := [az_i (0)]) (s2 := t3) rfl ?_
      refine az_retB rfl rfl (by first | decide | omega | exact Or.inl rfl | exact Or.inr rfl) ?_
      refine ⟨by rw [az_b0 (by omega)], by rw [qa3, if_pos (by assumption)], fun h => qv3 h.2, fun j hj => by rw [qb3 j hj, qb1], zFt_t qc1 qc3⟩
    · have h4 : zdg (T (ix + 1)) := h4
      refine az_to 2 (pc2 := 23) (lv2 := [some (az_r 34), some (az_i (2)), some (az_i (((pl : Nat) : Int)))]) (st2 := [az_i (1)]) (s2 := t3) rfl ?_
      refine az_retB rfl rfl (by first | decide | omega | exact Or.inl rfl | exact Or.inr rfl) ?_
      refine ⟨by rw [az_b1 (by omega)], by rw [qa3, if_pos (by assumption)], fun h => qv3 h.2, fun j hj => by rw [qb3 j hj, qb1], zFt_t qc1 qc3⟩
set_option maxRecDepth 100000 in
set_option maxHeartbeats 800000 in
theorem zs_X10_isForTroll {d : Nat} {s : az_S} (hd : 3 ≤ d) {n : Nat} {T : Nat → Int} (hT : zTy s n T) {ix : Nat} (hi : ix ≤ n) (hat : s 34 18 = ((ix : Nat) : Int)) {pl : Nat} (hpl : pl < 60) : az_R d am_m_X10_isForTroll 0 (az_ini (am_mL am_m_X10_isForTroll) [az_r 34, az_i (((pl : Nat) : Int))]) [] (s) (fun o t => o = .inl (some (az_i (az_b (T ix = 43 ∨ T ix = 45)))) ∧ t 34 18 = (((if T ix = 43 ∨ T ix = 45 then ix + 1 else ix) : Nat) : Int) ∧ t 42 pl = az_b (T ix = 43) ∧ (∀ j, j ≠ pl → t 42 j = s 42 j) ∧ zFt s t) := by
  have h60 : n ≤ 60 := hT.2.1
  have hz0 := zsn_r hT ix
  have hz1 := zsn_r hT (ix + 1)
  refine az_to 0 (pc2 := 0) (lv2 := [some (az_r 34), some (az_i (((pl : Nat) : Int)))]) (st2 := []) (s2 := s) rfl ?_
  refine az_to 4 (pc2 := 6) (lv2 := [some (az_r 34), some (az_i (((pl : Nat) : Int)))]) (st2 := [az_r 34, az_i (((pl : Nat) : Int)), az_r 42]) (s2 := s) rfl ?_
  refine az_clv (v := some (az_i (zsn T n ix))) (t := s) (m2 := am_m_X10_sign) (as := [az_r 34]) (rest := [az_i (((pl : Nat) : Int)), az_r 42]) 9 rfl rfl ⟨rfl, rfl⟩ (by omega) (zs_X10_sign (s := s) (ix := ix) (by omega) hT (by omega) hat) ?_
  refine az_to 0 (pc2 := 9) (lv2 := [some (az_r 34), some (az_i (((pl : Nat) : Int)))]) (st2 := [az_i (zsn T n ix), az_i (((pl : Nat) : Int)), az_r 42]) (s2 := s) rfl ?_
  refine az_to 1 (pc2 := 11) (lv2 := [some (az_r 34), some (az_i (((pl : Nat) : Int)))]) (st2 := [az_i (43), az_i (zsn T n ix), az_i (((pl : Nat) : Int)), az_r 42]) (s2 := s) rfl ?_
  refine az_if2 18 14 rfl (by decide) (by first | assumption | exact ⟨by omega, by omega⟩) ⟨by decide, by decide⟩ (fun h1 => ?_) (fun h1 => ?_)
  · have h1 : ¬ zsn T n ix = 43 := h1
    refine az_to 1 (pc2 := 19) (lv2 := [some (az_r 34), some (az_i (((pl : Nat) : Int)))]) (st2 := [az_i (0), az_i (((pl : Nat) : Int)), az_r 42]) (s2 := s) rfl ?_
    refine az_st_i 20 rfl rfl (by constructor <;> omega) ⟨by decide, rfl⟩ ?_
    refine az_to 2 (pc2 := 23) (lv2 := [some (az_r 34), some (az_i (((pl : Nat) : Int)))]) (st2 := [az_i (43), az_r 34]) (s2 := am_up s 42 pl (0)) rfl ?_
    refine az_cl (m2 := am_m_X10_isSign) (as := [az_r 34, az_i (43)]) (rest := []) 26 rfl rfl ⟨rfl, rfl⟩ (by omega) (zs_X10_isSign (s := am_up s 42 pl (0)) (ch := 43) (ix := ix) (by omega) hT (by omega) hat (by omega)) (fun v2 t2 q2 => ?_) (fun E t2 q2 => by cases q2.1)
    obtain ⟨o2, qa2, qb2, qc2⟩ := q2
    cases o2
    have hT2 := zTy_t (s := am_up s 42 pl (0)) hT qc2
    refine az_to 0 (pc2 := 26) (lv2 := [some (az_r 34), some (az_i (((pl : Nat) : Int)))]) (st2 := [az_i (az_b (T ix = 43))]) (s2 := t2) rfl ?_
    refine az_ifbn 38 29 rfl (by decide) (fun h3 => ?_) (fun h3 => ?_)
    · have h3 : T ix = 43 := h3
      refine az_to 2 (pc2 := 43) (lv2 := [some (az_r 34), some (az_i (((pl : Nat) : Int)))]) (st2 := [az_i (1)]) (s2 := t2) rfl ?_
      refine az_retB rfl rfl (by first | decide | omega | exact Or.inl rfl | exact Or.inr rfl) ?_
      refine ⟨by rw [az_b1 (by omega)], ?_, ?_, fun j hj => by rw [qb2]; simp [am_up, hj], zFt_t (zFt_42 s pl _) qc2⟩
      · rw [qa2]; repeat (first | rw [if_pos (by omega)] | rw [if_neg (by omega)])
      · rw [qb2]; first | (rw [az_b1 (by omega)]; simp [am_up]; done) | (rw [az_b0 (by omega)]; simp [am_up]; done)
    · have h3 : ¬ (T ix = 43) := h3
      have hat2 : t2 34 18 = ((ix : Nat) : Int) := by rw [qa2, if_neg h3]
      refine az_to 2 (pc2 := 32) (lv2 := [some (az_r 34), some (az_i (((pl : Nat) : Int)))]) (st2 := [az_i (45), az_r 34]) (s2 := t2) rfl ?_
      refine az_cl (m2 := am_m_X10_isSign) (as := [az_r 34, az_i (45)]) (rest := []) 35 rfl rfl ⟨rfl, rfl⟩ (by omega) (zs_X10_isSign (s := t2) (ch := 45) (ix := ix) (by omega) hT2 (by omega) hat2 (by omega)) (fun v4 t4 q4 => ?_) (fun E t4 q4 => by cases q4.1)
      obtain ⟨o4, qa4, qb4, qc4⟩ := q4
      cases o4
      have hT4 := zTy_t (s := t2) hT2 qc4
      refine az_to 0 (pc2 := 35) (lv2 := [some (az_r 34), some (az_i (((pl : Nat) : Int)))]) (st2 := [az_i (az_b (T ix = 45))]) (s2 := t4) rfl ?_
      refine az_ifbe 42 38 rfl (by decide) (fun h5 => ?_) (fun h5 => ?_)
      · have h5 : ¬ (T ix = 45) := h5
        refine az_to 1 (pc2 := 43) (lv2 := [some (az_r 34), some (az_i (((pl : Nat) : Int)))]) (st2 := [az_i (0)]) (s2 := t4) rfl ?_
        refine az_retB rfl rfl (by first | decide | omega | exact Or.inl rfl | exact Or.inr rfl) ?_
        refine ⟨by rw [az_b0 (by omega)], ?_, ?_, fun j hj => by rw [qb4, qb2]; simp [am_up, hj], zFt_t (zFt_42 s pl _) (zFt_t qc2 qc4)⟩
        · rw [qa4]; repeat (first | rw [if_pos (by omega)] | rw [if_neg (by omega)])
        · rw [qb4, qb2]; first | (rw [az_b1 (by omega)]; simp [am_up]; done) | (rw [az_b0 (by omega)]; simp [am_up]; done)
      · have h5 : T ix = 45 := h5
        refine az_to 2 (pc2 := 43) (lv2 := [some (az_r 34), some (az_i (((pl : Nat) : Int)))]) (st2 := [az_i (1)]) (s2 := t4) rfl ?_
        refine az_retB rfl rfl (by first | decide | omega | exact Or.inl rfl | exact Or.inr rfl) ?_
        refine ⟨by rw [az_b1 (by omega)], ?_, ?_, fun j hj => by rw [qb4, qb2]; simp [am_up, hj], zFt_t (zFt_42 s pl _) (zFt_t qc2 qc4)⟩
        · rw [qa4]; repeat (first | rw [if_pos (by omega)] | rw [if_neg (by omega)])
        · rw [qb4, qb2]; first | (rw [az_b1 (by omega)]; simp [am_up]; done) | (rw [az_b0 (by omega)]; simp [am_up]; done)
  · have h1 : zsn T n ix = 43 := Decidable.not_not.mp h1
    refine az_to 2 (pc2 := 19) (lv2 := [some (az_r 34), some (az_i (((pl : Nat) : Int)))]) (st2 := [az_i (1), az_i (((pl : Nat) : Int)), az_r 42]) (s2 := s) rfl ?_
    refine az_st_i 20 rfl rfl (by constructor <;> omega) ⟨by decide, rfl⟩ ?_
    refine az_to 2 (pc2 := 23) (lv2 := [some (az_r 34), some (az_i (((pl : Nat) : Int)))]) (st2 := [az_i (43), az_r 34]) (s2 := am_up s 42 pl (1)) rfl ?_
    refine az_cl (m2 := am_m_X10_isSign) (as := [az_r 34, az_i (43)]) (rest := []) 26 rfl rfl ⟨rfl, rfl⟩ (by omega) (zs_X10_isSign (s := am_up s 42 pl (1)) (ch := 43) (ix := ix) (by omega) hT (by omega) hat (by omega)) (fun v6 t6 q6 => ?_) (fun E t6 q6 => by cases q6.1)
    obtain ⟨o6, qa6, qb6, qc6⟩ := q6
    cases o6
    have hT6 := zTy_t (s := am_up s 42 pl (1)) hT qc6
    refine az_to 0 (pc2 := 26) (lv2 := [some (az_r 34), some (az_i (((pl : Nat) : Int)))]) (st2 := [az_i (az_b (T ix = 43))]) (s2 := t6) rfl ?_
    refine az_ifbn 38 29 rfl (by decide) (fun h7 => ?_) (fun h7 => ?_)
    · have h7 : T ix = 43 := h7
      refine az_to 2 (pc2 := 43) (lv2 := [some (az_r 34), some (az_i (((pl : Nat) : Int)))]) (st2 := [az_i (1)]) (s2 := t6) rfl ?_
      refine az_retB rfl rfl (by first | decide | omega | exact Or.inl rfl | exact Or.inr rfl) ?_
      refine ⟨by rw [az_b1 (by omega)], ?_, ?_, fun j hj => by rw [qb6]; simp [am_up, hj], zFt_t (zFt_42 s pl _) qc6⟩
      · rw [qa6]; repeat (first | rw [if_pos (by omega)] | rw [if_neg (by omega)])
      · rw [qb6]; first | (rw [az_b1 (by omega)]; simp [am_up]; done) | (rw [az_b0 (by omega)]; simp [am_up]; done)
    · have h7 : ¬ (T ix = 43) := h7
      have hat2 : t6 34 18 = ((ix : Nat) : Int) := by rw [qa6, if_neg h7]
      refine az_to 2 (pc2 := 32) (lv2 := [some (az_r 34), some (az_i (((pl : Nat) : Int)))]) (st2 := [az_i (45), az_r 34]) (s2 := t6) rfl ?_
      refine az_cl (m2 := am_m_X10_isSign) (as := [az_r 34, az_i (45)]) (rest := []) 35 rfl rfl ⟨rfl, rfl⟩ (by omega) (zs_X10_isSign (s := t6) (ch := 45) (ix := ix) (by omega) hT6 (by omega) hat2 (by omega)) (fun v8 t8 q8 => ?_) (fun E t8 q8 => by cases q8.1)
      obtain ⟨o8, qa8, qb8, qc8⟩ := q8
      cases o8
      have hT8 := zTy_t (s := t6) hT6 qc8
      refine az_to 0 (pc2 := 35) (lv2 := [some (az_r 34), some (az_i (((pl : Nat) : Int)))]) (st2 := [az_i (az_b (T ix = 45))]) (s2 := t8) rfl ?_
      refine az_ifbe 42 38 rfl (by decide) (fun h9 => ?_) (fun h9 => ?_)
      · have h9 : ¬ (T ix = 45) := h9
        refine az_to 1 (pc2 := 43) (lv2 := [some (az_r 34), some (az_i (((pl : Nat) : Int)))]) (st2 := [az_i (0)]) (s2 := t8) rfl ?_
        refine az_retB rfl rfl (by first | decide | omega | exact Or.inl rfl | exact Or.inr rfl) ?_
        refine ⟨by rw [az_b0 (by omega)], ?_, ?_, fun j hj => by rw [qb8, qb6]; simp [am_up, hj], zFt_t (zFt_42 s pl _) (zFt_t qc6 qc8)⟩
        · rw [qa8]; repeat (first | rw [if_pos (by omega)] | rw [if_neg (by omega)])
        · rw [qb8, qb6]; first | (rw [az_b1 (by omega)]; simp [am_up]; done) | (rw [az_b0 (by omega)]; simp [am_up]; done)
      · have h9 : T ix = 45 := h9
        refine az_to 2 (pc2 := 43) (lv2 := [some (az_r 34), some (az_i (((pl : Nat) : Int)))]) (st2 := [az_i (1)]) (s2 := t8) rfl ?_
        refine az_retB rfl rfl (by first | decide | omega | exact Or.inl rfl | exact Or.inr rfl) ?_
        refine ⟨by rw [az_b1 (by omega)], ?_, ?_, fun j hj => by rw [qb8, qb6]; simp [am_up, hj], zFt_t (zFt_42 s pl _) (zFt_t qc6 qc8)⟩
        · rw [qa8]; repeat (first | rw [if_pos (by omega)] | rw [if_neg (by omega)])
        · rw [qb8, qb6]; first | (rw [az_b1 (by omega)]; simp [am_up]; done) | (rw [az_b0 (by omega)]; simp [am_up]; done)
