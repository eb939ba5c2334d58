/-! MEAN TOLL, COUNTED SHARE, 2; written by program (wip/tools/zg/w3.py) -/
theorem wd_X9_meanToll {L : Nat} {xs : Nat → Int32} {s : az_S} {gl : Nat → Nat → Int64} {gd : Nat → Nat → UInt64} {S : zR} {h : Nat} (hR : zRel (s 3) S) (hI : zInv S h) (hh : h ≤ 10000) : aw_R L xs 12 am_m_X9_meanToll 0 (am_ini (am_mL am_m_X9_meanToll) (List.map az_e [az_r 0])) [] s gl gd 1 (fun o t gl2 gd2 => t = s ∧ gl2 = gl ∧ gd2 = gd ∧ (zn S 0 = 0 ∧ o = .inr 0 ∨ zn S 0 ≠ 0 ∧ o = .inl (some (.double (zmd S))))) := by
  have hn := zn_le hI
  refine aw_s 1 [some (.ref 0), none] [.ref 0] rfl rfl ?_
  refine aw_h 4 [.ref 1] s gl gd rfl rfl rfl rfl ?_
  refine aw_s 5 [some (.ref 0), none] (List.map az_e [az_i 2, az_r 1]) rfl rfl ?_
  refine aw_c (d := 11) 8 (st := [az_i 2, az_r 1]) rfl rfl rfl (zs_X8_of_2 (s := s) (by decide) hR hI hh) (fun v9 t q => ?_) (fun E t q => by cases q.1)
  obtain ⟨q1, rfl⟩ := q
  cases q1
  refine aw_s 9 [some (.ref 0), some (az_e (az_i ((zn S 0 : Nat) : Int)))] [] rfl rfl ?_
  refine aw_s 10 [some (.ref 0), some (az_e (az_i ((zn S 0 : Nat) : Int)))] [az_e (az_i ((zn S 0 : Nat) : Int))] rfl rfl ?_
  by_cases q : zn S 0 = 0
  · rw [q]
    refine aw_s 13 _ [] rfl (aw_n0 (by decide)) ?_
    exact aw_t (E := 0) rfl rfl rfl rfl rfl rfl (Nat.le_refl 1) ⟨rfl, rfl, rfl, Or.inl ⟨rfl, rfl⟩⟩
  · refine aw_s 24 [some (.ref 0), some (az_e (az_i ((zn S 0 : Nat) : Int)))] [] rfl (aw_n1 ⟨⟨by omega, by omega⟩, by omega⟩ (by decide)) ?_
    refine aw_s 25 [some (.ref 0), some (az_e (az_i ((zn S 0 : Nat) : Int)))] [.ref 0] rfl rfl ?_
    refine aw_h 28 [.ref 1] t gl gd rfl rfl rfl rfl ?_
    refine aw_s 29 [some (.ref 0), some (az_e (az_i ((zn S 0 : Nat) : Int)))] (List.map az_e [az_i (az_b True), az_r 1]) rfl rfl ?_
    refine aw_c (d := 11) 32 (st := [az_i (az_b True), az_r 1]) rfl rfl rfl (zs_X8_sumOfTolls (s := t) (p := True) (by decide) hR hI hh) (fun v9 u q5 => ?_) (fun E u q => by cases q.1)
    obtain ⟨q1, rfl⟩ := q5
    cases q1
    refine aw_s 33 [some (.ref 0), some (az_e (az_i ((zn S 0 : Nat) : Int)))] [.double (FP.i2d (Int32.ofInt (ztl S True)))] rfl rfl ?_
    refine aw_s 34 [some (.ref 0), some (az_e (az_i ((zn S 0 : Nat) : Int)))] [.int (Int32.ofInt ((zn S 0 : Nat) : Int)), .double (FP.i2d (Int32.ofInt (ztl S True)))] rfl rfl ?_
    refine aw_s 35 [some (.ref 0), some (az_e (az_i ((zn S 0 : Nat) : Int)))] [.double (FP.i2d (Int32.ofInt ((zn S 0 : Nat) : Int))), .double (FP.i2d (Int32.ofInt (ztl S True)))] rfl rfl ?_
    refine aw_s 36 [some (.ref 0), some (az_e (az_i ((zn S 0 : Nat) : Int)))] [.double (zmd S)] rfl ?_ ?_
    · show (if zmd S &&& 0x7fffffffffffffff ≤ 0x7ff0000000000000 then some (36, [some (.ref 0), some (az_e (az_i ((zn S 0 : Nat) : Int)))], [Value.double (zmd S)]) else none) = _
      exact if_pos (zmd_ok hI q).1
    · exact aw_end rfl rfl rfl rfl rfl ⟨rfl, rfl, rfl, Or.inr ⟨q, rfl⟩⟩
theorem wd_X9_countedShare {L : Nat} {xs : Nat → Int32} {s : az_S} {gl : Nat → Nat → Int64} {gd : Nat → Nat → UInt64} {S : zR} {h : Nat} (hR : zRel (s 3) S) (hI : zInv S h) (hh : h ≤ 10000) : aw_R L xs 12 am_m_X9_countedShare 0 (am_ini (am_mL am_m_X9_countedShare) (List.map az_e [az_r 0])) [] s gl gd 1 (fun o t gl2 gd2 => t = s ∧ gl2 = gl ∧ gd2 = gd ∧ (zn S 0 = 0 ∧ o = .inr 0 ∨ zn S 0 ≠ 0 ∧ o = .inl (some (.float (zmf S))))) := by
  have hn := zn_le hI
  refine aw_s 1 [some (.ref 0), none] [.ref 0] rfl rfl ?_
  refine aw_h 4 [.ref 1] s gl gd rfl rfl rfl rfl ?_
  refine aw_s 5 [some (.ref 0), none] (List.map az_e [az_i 2, az_r 1]) rfl rfl ?_
  refine aw_c (d := 11) 8 (st := [az_i 2, az_r 1]) rfl rfl rfl (zs_X8_of_2 (s := s) (by decide) hR hI hh) (fun v9 t q => ?_) (fun E t q => by cases q.1)
  obtain ⟨q1, rfl⟩ := q
  cases q1
  refine aw_s 9 [some (.ref 0), some (az_e (az_i ((zn S 0 : Nat) : Int)))] [] rfl rfl ?_
  refine aw_s 10 [some (.ref 0), some (az_e (az_i ((zn S 0 : Nat) : Int)))] [az_e (az_i ((zn S 0 : Nat) : Int))] rfl rfl ?_
  by_cases q : zn S 0 = 0
  · rw [q]
    refine aw_s 13 _ [] rfl (aw_n0 (by decide)) ?_
    exact aw_t (E := 0) rfl rfl rfl rfl rfl rfl (Nat.le_refl 1) ⟨rfl, rfl, rfl, Or.inl ⟨rfl, rfl⟩⟩
  · refine aw_s 24 [some (.ref 0), some (az_e (az_i ((zn S 0 : Nat) : Int)))] [] rfl (aw_n1 ⟨⟨by omega, by omega⟩, by omega⟩ (by decide)) ?_
    refine aw_s 25 [some (.ref 0), some (az_e (az_i ((zn S 0 : Nat) : Int)))] [.ref 0] rfl rfl ?_
    refine aw_h 28 [.ref 1] t gl gd rfl rfl rfl rfl ?_
    refine aw_c (d := 11) 31 (st := [az_r 1]) rfl rfl rfl (zs_X8_countBridgesCounted (s := t) (by decide) hR hI hh) (fun v9 u q5 => ?_) (fun E u q => by cases q.1)
    obtain ⟨q1, rfl⟩ := q5
    cases q1
    refine aw_s 32 [some (.ref 0), some (az_e (az_i ((zn S 0 : Nat) : Int)))] [.float (FP.i2f (Int32.ofInt (zcc S)))] rfl rfl ?_
    refine aw_s 33 [some (.ref 0), some (az_e (az_i ((zn S 0 : Nat) : Int)))] [.int (Int32.ofInt ((zn S 0 : Nat) : Int)), .float (FP.i2f (Int32.ofInt (zcc S)))] rfl rfl ?_
    refine aw_s 34 [some (.ref 0), some (az_e (az_i ((zn S 0 : Nat) : Int)))] [.float (FP.i2f (Int32.ofInt ((zn S 0 : Nat) : Int))), .float (FP.i2f (Int32.ofInt (zcc S)))] rfl rfl ?_
    refine aw_s 35 [some (.ref 0), some (az_e (az_i ((zn S 0 : Nat) : Int)))] [.float (zmf S)] rfl ?_ ?_
    · show (if zmf S &&& 0x7fffffff ≤ 0x7f800000 then some (35, [some (.ref 0), some (az_e (az_i ((zn S 0 : Nat) : Int)))], [Value.float (zmf S)]) else none) = _
      exact if_pos (zmf_ok hI q).1
    · exact aw_end rfl rfl rfl rfl rfl ⟨rfl, rfl, rfl, Or.inr ⟨q, rfl⟩⟩
theorem wl_meanToll {L : Nat} {xs : Nat → Int32} {s : az_S} {gl : Nat → Nat → Int64} {gd : Nat → Nat → UInt64} {S : zR} {h : Nat} (hR : zRel (s 3) S) (hI : zInv S h) (hh : h ≤ 10000) : aw_R L xs 13 am_m_L_meanToll 0 (am_ini (am_mL am_m_L_meanToll) (List.map az_e [az_r 0, az_r 44])) [] s gl gd 1 (fun o t gl2 gd2 => t = s ∧ gl2 = gl ∧ (zn S 0 = 0 ∧ o = .inl (some (az_e (az_i 1))) ∨ zn S 0 ≠ 0 ∧ gd2 44 0 = zmd S ∧ o = .inl (some (az_e (az_i 0))))) := by
  refine aw_s 1 (am_ini (am_mL am_m_L_meanToll) (List.map az_e [az_r 0, az_r 44])) [.ref 44] rfl rfl ?_
  refine aw_s 2 (am_ini (am_mL am_m_L_meanToll) (List.map az_e [az_r 0, az_r 44])) [.int (Int32.ofInt 0), .ref 44] rfl rfl ?_
  refine aw_s 3 (am_ini (am_mL am_m_L_meanToll) (List.map az_e [az_r 0, az_r 44])) (List.map az_e [az_r 0, az_i 0, az_r 44]) rfl rfl ?_
  refine aw_y (d := 12) (N1 := 1) (N2 := 0) 6 (st := [az_r 0, az_i 0, az_r 44]) rfl rfl rfl rfl (wd_X9_meanToll hR hI hh) (fun v t gl2 gd2 q => ?_) (fun E t gl2 gd2 q => ?_)
  · obtain ⟨rfl, rfl, rfl, q⟩ := q
    rcases q with ⟨_, q2⟩ | ⟨q1, q2⟩
    · cases q2
    · cases q2
      refine aw_h 7 [] t gl2 (am_up gd2 44 0 (zmd S)) rfl rfl aw_ds rfl ?_
      refine aw_s 13 (am_ini (am_mL am_m_L_meanToll) (List.map az_e [az_r 0, az_r 44])) [] rfl rfl ?_
      refine aw_s 14 (am_ini (am_mL am_m_L_meanToll) (List.map az_e [az_r 0, az_r 44])) [.int (Int32.ofInt 0)] rfl rfl ?_
      exact aw_end rfl rfl rfl rfl aw_ri ⟨rfl, rfl, Or.inr ⟨q1, rfl, rfl⟩⟩
  · obtain ⟨rfl, rfl, rfl, q⟩ := q
    rcases q with ⟨q1, q2⟩ | ⟨_, q2⟩
    · cases q2
      refine ⟨10, 11, _, rfl, rfl, ?_⟩
      refine aw_s 12 _ [.int (Int32.ofInt 1)] rfl rfl ?_
      exact aw_end rfl rfl rfl rfl aw_ri ⟨rfl, rfl, Or.inl ⟨q1, rfl⟩⟩
    · cases q2
theorem wl_countedShare {L : Nat} {xs : Nat → Int32} {s : az_S} {gl : Nat → Nat → Int64} {gd : Nat → Nat → UInt64} {S : zR} {h : Nat} (hR : zRel (s 3) S) (hI : zInv S h) (hh : h ≤ 10000) : aw_R L xs 13 am_m_L_countedShare 0 (am_ini (am_mL am_m_L_countedShare) (List.map az_e [az_r 0, az_r 44])) [] s gl gd 1 (fun o t gl2 gd2 => t = s ∧ gl2 = gl ∧ (zn S 0 = 0 ∧ o = .inl (some (az_e (az_i 1))) ∨ zn S 0 ≠ 0 ∧ gd2 44 0 = FP.f2d (zmf S) ∧ o = .inl (some (az_e (az_i 0))))) := by
  refine aw_s 1 (am_ini (am_mL am_m_L_countedShare) (List.map az_e [az_r 0, az_r 44])) [.ref 44] rfl rfl ?_
  refine aw_s 2 (am_ini (am_mL am_m_L_countedShare) (List.map az_e [az_r 0, az_r 44])) [.int (Int32.ofInt 0), .ref 44] rfl rfl ?_
  refine aw_s 3 (am_ini (am_mL am_m_L_countedShare) (List.map az_e [az_r 0, az_r 44])) (List.map az_e [az_r 0, az_i 0, az_r 44]) rfl rfl ?_
  refine aw_y (d := 12) (N1 := 1) (N2 := 0) 6 (st := [az_r 0, az_i 0, az_r 44]) rfl rfl rfl rfl (wd_X9_countedShare hR hI hh) (fun v t gl2 gd2 q => ?_) (fun E t gl2 gd2 q => ?_)
  · obtain ⟨rfl, rfl, rfl, q⟩ := q
    rcases q with ⟨_, q2⟩ | ⟨q1, q2⟩
    · cases q2
    · cases q2
      refine aw_s 7 (am_ini (am_mL am_m_L_countedShare) (List.map az_e [az_r 0, az_r 44])) [.double (FP.f2d (zmf S)), .int (Int32.ofInt 0), .ref 44] rfl ?_ ?_
      · show (if FP.f2d (zmf S) &&& 0x7fffffffffffffff ≤ 0x7ff0000000000000 then some (7, (am_ini (am_mL am_m_L_countedShare) (List.map az_e [az_r 0, az_r 44])), [Value.double (FP.f2d (zmf S)), .int (Int32.ofInt 0), .ref 44]) else none) = _
        exact if_pos (zmf_ok hI q1).2.1
      refine aw_h 8 [] t gl2 (am_up gd2 44 0 (FP.f2d (zmf S))) rfl rfl aw_ds rfl ?_
      refine aw_s 14 (am_ini (am_mL am_m_L_countedShare) (List.map az_e [az_r 0, az_r 44])) [] rfl rfl ?_
      refine aw_s 15 (am_ini (am_mL am_m_L_countedShare) (List.map az_e [az_r 0, az_r 44])) [.int (Int32.ofInt 0)] rfl rfl ?_
      exact aw_end rfl rfl rfl rfl aw_ri ⟨rfl, rfl, Or.inr ⟨q1, rfl, rfl⟩⟩
  · obtain ⟨rfl, rfl, rfl, q⟩ := q
    rcases q with ⟨q1, q2⟩ | ⟨_, q2⟩
    · cases q2
      refine ⟨11, 12, _, rfl, rfl, ?_⟩
      refine aw_s 13 _ [.int (Int32.ofInt 1)] rfl rfl ?_
      exact aw_end rfl rfl rfl rfl aw_ri ⟨rfl, rfl, Or.inl ⟨q1, rfl⟩⟩
    · cases q2
theorem wd_X10_meanToll {L : Nat} {xs : Nat → Int32} {s : az_S} {gl : Nat → Nat → Int64} {gd : Nat → Nat → UInt64} {S : zR} {h : Nat} (hS : s 35 = S) (hI : zInv S h) (hh : h ≤ 10000) : aw_R L xs 13 am_m_X10_meanToll 0 (am_ini (am_mL am_m_X10_meanToll) (List.map az_e [az_r 34])) [] s gl gd 0 (fun o t gl2 gd2 => gl2 = gl ∧ gd2 = gd ∧ (zn S 0 = 0 ∧ zFm s t 1 ∧ o = .inl (some (.double 0)) ∨ zn S 0 ≠ 0 ∧ zFm s t 0 ∧ o = .inl (some (.double (zmd S))))) := by
  have hn := zn_le hI
  have hz := zn_eq hI
  have h0 : s 35 0 = ((zn S 0 : Nat) : Int) := by rw [hS, hz.1]
  refine aw_s 1 [some (.ref 34), none] [.ref 34] rfl rfl ?_
  refine aw_s 2 [some (.ref 34), none] [.ref 34, .ref 34] rfl rfl ?_
  refine aw_h 5 [.ref 35, .ref 34] s gl gd rfl rfl rfl rfl ?_
  refine aw_s 6 [some (.ref 34), none] [.int (Int32.ofInt 0), .ref 35, .ref 34] rfl rfl ?_
  refine aw_h 7 [.int (Int32.ofInt (s 35 0)), .ref 34] s gl gd rfl rfl rfl rfl ?_
  rw [h0]
  by_cases q : zn S 0 = 0
  · rw [q]
    refine aw_s 10 [some (.ref 34), none] [.ref 34] rfl (aw_n0 (by decide)) ?_
    refine aw_s 11 [some (.ref 34), none] [.int (Int32.ofInt 1), .ref 34] rfl rfl ?_
    refine aw_s 15 [some (.ref 34), none] [.int (Int32.ofInt 1), .ref 34] rfl rfl ?_
    refine aw_s 16 [some (.ref 34), none] (List.map az_e [az_i 1, az_i 1, az_r 34]) rfl rfl ?_
    refine aw_c (d := 12) 19 (st := [az_i 1, az_i 1, az_r 34]) rfl rfl rfl (zs_X10_isThrown_t (s := s) (by decide)) (fun v9 t q9 => ?_) (fun E t q => by cases q.1)
    obtain ⟨q1, rfl⟩ := q9
    cases q1
    refine aw_s 22 [some (.ref 34), none] [] rfl rfl ?_
    refine aw_s 23 [some (.ref 34), none] [.double 0] rfl rfl ?_
    exact aw_end rfl rfl rfl rfl rfl ⟨rfl, rfl, Or.inl ⟨rfl, zFm_k 1 rfl, rfl⟩⟩
  · refine aw_s 14 [some (.ref 34), none] [.ref 34] rfl (aw_n1 ⟨⟨by omega, by omega⟩, by omega⟩ (by decide)) ?_
    refine aw_s 15 [some (.ref 34), none] [.int (Int32.ofInt 0), .ref 34] rfl rfl ?_
    refine aw_s 16 [some (.ref 34), none] (List.map az_e [az_i 1, az_i 0, az_r 34]) rfl rfl ?_
    refine aw_c (d := 12) 19 (st := [az_i 1, az_i 0, az_r 34]) rfl rfl rfl (zs_X10_isThrown_f (s := s) (by decide)) (fun v9 t q9 => ?_) (fun E t q => by cases q.1)
    obtain ⟨q1, rfl⟩ := q9
    cases q1
    refine aw_s 24 [some (.ref 34), none] [] rfl rfl ?_
    refine aw_s 25 [some (.ref 34), none] [.ref 34] rfl rfl ?_
    refine aw_s 26 [some (.ref 34), none] (List.map az_e [az_i 1, az_r 34]) rfl rfl ?_
    refine aw_c (d := 12) 29 (st := [az_i 1, az_r 34]) rfl rfl rfl (zs_X10_sum_1 (s := am_up s 34 6 0) (by decide) hS hI hh) (fun v9 t q9 => ?_) (fun E t q => by cases q.1)
    obtain ⟨q1, rfl⟩ := q9
    cases q1
    refine aw_s 30 [some (.ref 34), some (az_e (az_i (ztl S True)))] [] rfl rfl ?_
    refine aw_s 31 [some (.ref 34), some (az_e (az_i (ztl S True)))] [.int (Int32.ofInt (ztl S True))] rfl rfl ?_
    refine aw_s 32 [some (.ref 34), some (az_e (az_i (ztl S True)))] [.double (FP.i2d (Int32.ofInt (ztl S True)))] rfl rfl ?_
    refine aw_s 33 [some (.ref 34), some (az_e (az_i (ztl S True)))] [.ref 34, .double (FP.i2d (Int32.ofInt (ztl S True)))] rfl rfl ?_
    refine aw_h 36 [.ref 35, .double (FP.i2d (Int32.ofInt (ztl S True)))] _ gl gd rfl rfl rfl rfl ?_
    refine aw_s 37 [some (.ref 34), some (az_e (az_i (ztl S True)))] [.int (Int32.ofInt 0), .ref 35, .double (FP.i2d (Int32.ofInt (ztl S True)))] rfl rfl ?_
    refine aw_h 38 [.int (Int32.ofInt (s 35 0)), .double (FP.i2d (Int32.ofInt (ztl S True)))] _ gl gd rfl rfl rfl rfl ?_
    rw [h0]
    refine aw_s 39 [some (.ref 34), some (az_e (az_i (ztl S True)))] [.double (FP.i2d (Int32.ofInt ((zn S 0 : Nat) : Int))), .double (FP.i2d (Int32.ofInt (ztl S True)))] rfl rfl ?_
    refine aw_s 40 [some (.ref 34), some (az_e (az_i (ztl S True)))] [.double (zmd S)] rfl ?_ ?_
    · show (if zmd S &&& 0x7fffffffffffffff ≤ 0x7ff0000000000000 then some (40, [some (.ref 34), some (az_e (az_i (ztl S True)))], [Value.double (zmd S)]) else none) = _
      exact if_pos (zmd_ok hI q).1
    · refine aw_end rfl rfl rfl rfl rfl ⟨rfl, rfl, Or.inr ⟨q, ⟨rfl, fun j hj => ?_, fun i h1 _ => ?_⟩, rfl⟩⟩
      · simp [am_up, hj]
      · funext b
        simp [am_up, h1]
theorem wd_X10_countedShare {L : Nat} {xs : Nat → Int32} {s : az_S} {gl : Nat → Nat → Int64} {gd : Nat → Nat → UInt64} {S : zR} {h : Nat} (hS : s 35 = S) (hI : zInv S h) (hh : h ≤ 10000) : aw_R L xs 13 am_m_X10_countedShare 0 (am_ini (am_mL am_m_X10_countedShare) (List.map az_e [az_r 34])) [] s gl gd 0 (fun o t gl2 gd2 => gl2 = gl ∧ gd2 = gd ∧ (zn S 0 = 0 ∧ zFm s t 1 ∧ o = .inl (some (.float 0)) ∨ zn S 0 ≠ 0 ∧ zFm s t 0 ∧ o = .inl (some (.float (zmf S))))) := by
  have hn := zn_le hI
  have hz := zn_eq hI
  have h0 : s 35 0 = ((zn S 0 : Nat) : Int) := by rw [hS, hz.1]
  refine aw_s 1 [some (.ref 34), none] [.ref 34] rfl rfl ?_
  refine aw_s 2 [some (.ref 34), none] [.ref 34, .ref 34] rfl rfl ?_
  refine aw_h 5 [.ref 35, .ref 34] s gl gd rfl rfl rfl rfl ?_
  refine aw_s 6 [some (.ref 34), none] [.int (Int32.ofInt 0), .ref 35, .ref 34] rfl rfl ?_
  refine aw_h 7 [.int (Int32.ofInt (s 35 0)), .ref 34] s gl gd rfl rfl rfl rfl ?_
  rw [h0]
  by_cases q : zn S 0 = 0
  · rw [q]
    refine aw_s 10 [some (.ref 34), none] [.ref 34] rfl (aw_n0 (by decide)) ?_
    refine aw_s 11 [some (.ref 34), none] [.int (Int32.ofInt 1), .ref 34] rfl rfl ?_
    refine aw_s 15 [some (.ref 34), none] [.int (Int32.ofInt 1), .ref 34] rfl rfl ?_
    refine aw_s 16 [some (.ref 34), none] (List.map az_e [az_i 1, az_i 1, az_r 34]) rfl rfl ?_
    refine aw_c (d := 12) 19 (st := [az_i 1, az_i 1, az_r 34]) rfl rfl rfl (zs_X10_isThrown_t (s := s) (by decide)) (fun v9 t q9 => ?_) (fun E t q => by cases q.1)
    obtain ⟨q1, rfl⟩ := q9
    cases q1
    refine aw_s 22 [some (.ref 34), none] [] rfl rfl ?_
    refine aw_s 23 [some (.ref 34), none] [.float 0] rfl rfl ?_
    exact aw_end rfl rfl rfl rfl rfl ⟨rfl, rfl, Or.inl ⟨rfl, zFm_k 1 rfl, rfl⟩⟩
  · refine aw_s 14 [some (.ref 34), none] [.ref 34] rfl (aw_n1 ⟨⟨by omega, by omega⟩, by omega⟩ (by decide)) ?_
    refine aw_s 15 [some (.ref 34), none] [.int (Int32.ofInt 0), .ref 34] rfl rfl ?_
    refine aw_s 16 [some (.ref 34), none] (List.map az_e [az_i 1, az_i 0, az_r 34]) rfl rfl ?_
    refine aw_c (d := 12) 19 (st := [az_i 1, az_i 0, az_r 34]) rfl rfl rfl (zs_X10_isThrown_f (s := s) (by decide)) (fun v9 t q9 => ?_) (fun E t q => by cases q.1)
    obtain ⟨q1, rfl⟩ := q9
    cases q1
    refine aw_s 24 [some (.ref 34), none] [] rfl rfl ?_
    refine aw_s 25 [some (.ref 34), none] (List.map az_e [az_r 34]) rfl rfl ?_
    refine aw_c (d := 12) 28 (st := [az_r 34]) rfl rfl rfl (zs_X10_counted (s := am_up s 34 6 0) (by decide) hS hI hh) (fun v9 t q9 => ?_) (fun E t q => by cases q.1)
    obtain ⟨q1, rfl⟩ := q9
    cases q1
    refine aw_s 29 [some (.ref 34), some (az_e (az_i (zcc S)))] [] rfl rfl ?_
    refine aw_s 30 [some (.ref 34), some (az_e (az_i (zcc S)))] [.int (Int32.ofInt (zcc S))] rfl rfl ?_
    refine aw_s 31 [some (.ref 34), some (az_e (az_i (zcc S)))] [.float (FP.i2f (Int32.ofInt (zcc S)))] rfl rfl ?_
    refine aw_s 32 [some (.ref 34), some (az_e (az_i (zcc S)))] [.ref 34, .float (FP.i2f (Int32.ofInt (zcc S)))] rfl rfl ?_
    refine aw_h 35 [.ref 35, .float (FP.i2f (Int32.ofInt (zcc S)))] _ gl gd rfl rfl rfl rfl ?_
    refine aw_s 36 [some (.ref 34), some (az_e (az_i (zcc S)))] [.int (Int32.ofInt 0), .ref 35, .float (FP.i2f (Int32.ofInt (zcc S)))] rfl rfl ?_
    refine aw_h 37 [.int (Int32.ofInt (s 35 0)), .float (FP.i2f (Int32.ofInt (zcc S)))] _ gl gd rfl rfl rfl rfl ?_
    rw [h0]
    refine aw_s 38 [some (.ref 34), some (az_e (az_i (zcc S)))] [.float (FP.i2f (Int32.ofInt ((zn S 0 : Nat) : Int))), .float (FP.i2f (Int32.ofInt (zcc S)))] rfl rfl ?_
    refine aw_s 39 [some (.ref 34), some (az_e (az_i (zcc S)))] [.float (zmf S)] rfl ?_ ?_
    · show (if zmf S &&& 0x7fffffff ≤ 0x7f800000 then some (39, [some (.ref 34), some (az_e (az_i (zcc S)))], [Value.float (zmf S)]) else none) = _
      exact if_pos (zmf_ok hI q).1
    · refine aw_end rfl rfl rfl rfl rfl ⟨rfl, rfl, Or.inr ⟨q, ⟨rfl, fun j hj => ?_, fun i h1 _ => ?_⟩, rfl⟩⟩
      · simp [am_up, hj]
      · funext b
        simp [am_up, h1]
theorem lc_meanToll {L : Nat} {xs : Nat → Int32} {s : az_S} {gl : Nat → Nat → Int64} {gd : Nat → Nat → UInt64} {N : Nat} {Q : Option Value ⊕ Nat → az_S → (Nat → Nat → Int64) → (Nat → Nat → UInt64) → Prop} {i : Nat} {o6 o7 o8 : Option Value} {h : Nat} (H : zyS s h) (hh : h + 10 ≤ 10000) (hL : i + 5 ≤ L ∧ L < 2147483648) (K : ∀ t gl2 gd2 o6 o7 o8, zyS t (h + 10) → aw_R L xs 14 am_m_L_law 2747 (al i o6 o7 o8) [] t gl2 gd2 N Q) : aw_R L xs 14 am_m_L_law 2515 (al i o6 o7 o8) [] s gl gd (N + 1) Q := by
  have hK : ∀ q, q ∈ ([(2515, .aload_n 1, 1), (2516, .aload 4, 2), (2518, .invokestatic 287, 3), (2521, .istore 6, 2), (2523, .aload_n 2, 1), (2524, .invokevirtual 290, 3), (2527, .dstore 7, 2), (2529, .aload_n 2, 1), (2530, .invokevirtual 156, 3), (2533, .iload 6, 2), (2535, .if_icmp .eq 5, 3), (2538, .iconst 0, 1), (2539, .ireturn, 1), (2540, .iload 6, 2), (2542, .ifCond .ne 35, 3), (2545, .aload 4, 2), (2547, .iconst 0, 1), (2548, .daload, 1), (2549, .dload 7, 2), (2551, .dcmp .l, 1), (2552, .ifCond .eq 25, 3), (2555, .aload 4, 2), (2557, .iconst 0, 1), (2558, .daload, 1), (2559, .aload 4, 2), (2561, .iconst 0, 1), (2562, .daload, 1), (2563, .dcmp .l, 1), (2564, .ifCond .eq 11, 3), (2567, .dload 7, 2), (2569, .dload 7, 2), (2571, .dcmp .l, 1), (2572, .ifCond .ne 5, 3), (2575, .iconst 0, 1), (2576, .ireturn, 1), (2577, .goto 170, 3)] : List (Nat × Instr × Nat)) → am_find q.1 am_c_L_law = some q.2 := by decide +kernel
  have hI := H.1.2.1
  refine aw_s 2516 (al i o6 o7 o8) (List.map az_e [az_r 0]) (aw_n hK 0 2515 (.aload_n 1) 1 rfl) rfl ?_
  refine aw_s 2518 (al i o6 o7 o8) (List.map az_e [az_r 44, az_r 0]) (aw_n hK 1 2516 (.aload 4) 2 rfl) rfl ?_
  refine aw_w (d := 13) (N1 := 1) (N2 := N) 2521 (st := [az_r 44, az_r 0]) (aw_n hK 2 2518 (.invokestatic 287) 3 rfl) rfl rfl (by omega) (wl_meanToll H.1.1 hI (by omega)) (fun v t gl2 gd2 q => ?_) (fun E t gl2 gd2 q => by obtain ⟨_, _, ⟨_, w⟩ | ⟨_, _, w⟩⟩ := q <;> cases w)
  obtain ⟨rfl, rfl, q⟩ := q
  rcases q with ⟨hn, q⟩ | ⟨hn, hd, q⟩
  · cases q
    refine aw_s 2523 (al i (some (az_e (az_i 1))) o7 o8) [] (aw_n hK 3 2521 (.istore 6) 2 rfl) rfl ?_
    refine aw_s 2524 (al i (some (az_e (az_i 1))) o7 o8) (List.map az_e [az_r 34]) (aw_n hK 4 2523 (.aload_n 2) 1 rfl) rfl ?_
    refine aw_w (d := 13) (N1 := 0) (N2 := N) 2527 (st := [az_r 34]) (aw_n hK 5 2524 (.invokevirtual 290) 3 rfl) rfl rfl (by omega) (wd_X10_meanToll rfl hI (by omega)) (fun v t2 gl3 gd3 q => ?_) (fun E t gl2 gd2 q => by obtain ⟨_, _, ⟨_, _, w⟩ | ⟨_, _, w⟩⟩ := q <;> cases w)
    obtain ⟨rfl, rfl, q⟩ := q
    rcases q with ⟨hn2, hm, q⟩ | ⟨hn2, hm, q⟩
    · cases q
      have w1 := zyS_q H (zFq_r _) hm
      refine aw_s 2529 (al i (some (az_e (az_i 1))) (some (.double 0)) none) [] (aw_n hK 6 2527 (.dstore 7) 2 rfl) rfl ?_
      refine aw_s 2530 (al i (some (az_e (az_i 1))) (some (.double 0)) none) [.ref 34] (aw_n hK 7 2529 (.aload_n 2) 1 rfl) rfl ?_
      refine aw_c (d := 13) 2533 (st := [az_r 34]) (aw_n hK 8 2530 (.invokevirtual 156) 3 rfl) rfl rfl (zs_X10_thrown (s := t2) (by decide)) (fun v9 t3 q9 => ?_) (fun E t q => by cases q.1)
      obtain ⟨q1, rfl⟩ := q9
      cases q1
      show aw_R L xs 14 am_m_L_law 2533 _ [az_e (az_i (t3 34 6))] t3 _ _ _ _
      rw [hm.1]
      refine aw_s 2535 (al i (some (az_e (az_i 1))) (some (.double 0)) none) [az_e (az_i 1), az_e (az_i 1)] (aw_n hK 9 2533 (.iload 6) 2 rfl) rfl ?_
      refine aw_s 2540 (al i (some (az_e (az_i 1))) (some (.double 0)) none) [] (aw_n hK 10 2535 (.if_icmp .eq 5) 3 rfl) (aw_if (by decide)) ?_
      refine aw_s 2542 (al i (some (az_e (az_i 1))) (some (.double 0)) none) [az_e (az_i 1)] (aw_n hK 13 2540 (.iload 6) 2 rfl) rfl ?_
      refine aw_s 2577 (al i (some (az_e (az_i 1))) (some (.double 0)) none) [] (aw_n hK 14 2542 (.ifCond .ne 35) 3 rfl) (aw_n1 ⟨⟨by decide, by decide⟩, by decide⟩ (by decide)) ?_
      refine aw_s 2747 (al i (some (az_e (az_i 1))) (some (.double 0)) none) [] (aw_n hK 35 2577 (.goto 170) 3 rfl) rfl ?_
      exact K _ _ _ _ _ _ w1
    · exact absurd hn hn2
  · cases q
    refine aw_s 2523 (al i (some (az_e (az_i 0))) o7 o8) [] (aw_n hK 3 2521 (.istore 6) 2 rfl) rfl ?_
    refine aw_s 2524 (al i (some (az_e (az_i 0))) o7 o8) (List.map az_e [az_r 34]) (aw_n hK 4 2523 (.aload_n 2) 1 rfl) rfl ?_
    refine aw_w (d := 13) (N1 := 0) (N2 := N) 2527 (st := [az_r 34]) (aw_n hK 5 2524 (.invokevirtual 290) 3 rfl) rfl rfl (by omega) (wd_X10_meanToll rfl hI (by omega)) (fun v t2 gl3 gd3 q => ?_) (fun E t gl2 gd2 q => by obtain ⟨_, _, ⟨_, _, w⟩ | ⟨_, _, w⟩⟩ := q <;> cases w)
    obtain ⟨rfl, rfl, q⟩ := q
    rcases q with ⟨hn2, hm, q⟩ | ⟨hn2, hm, q⟩
    · exact absurd hn2 hn
    · cases q
      have w1 := zyS_q H (zFq_r _) hm
      refine aw_s 2529 (al i (some (az_e (az_i 0))) (some (.double (zmd (t 35)))) none) [] (aw_n hK 6 2527 (.dstore 7) 2 rfl) rfl ?_
      refine aw_s 2530 (al i (some (az_e (az_i 0))) (some (.double (zmd (t 35)))) none) [.ref 34] (aw_n hK 7 2529 (.aload_n 2) 1 rfl) rfl ?_
      refine aw_c (d := 13) 2533 (st := [az_r 34]) (aw_n hK 8 2530 (.invokevirtual 156) 3 rfl) rfl rfl (zs_X10_thrown (s := t2) (by decide)) (fun v9 t3 q9 => ?_) (fun E t q => by cases q.1)
      obtain ⟨q1, rfl⟩ := q9
      cases q1
      show aw_R L xs 14 am_m_L_law 2533 _ [az_e (az_i (t3 34 6))] t3 _ _ _ _
      rw [hm.1]
      refine aw_s 2535 (al i (some (az_e (az_i 0))) (some (.double (zmd (t 35)))) none) [az_e (az_i 0), az_e (az_i 0)] (aw_n hK 9 2533 (.iload 6) 2 rfl) rfl ?_
      refine aw_s 2540 (al i (some (az_e (az_i 0))) (some (.double (zmd (t 35)))) none) [] (aw_n hK 10 2535 (.if_icmp .eq 5) 3 rfl) (aw_if (by decide)) ?_
      refine aw_s 2542 (al i (some (az_e (az_i 0))) (some (.double (zmd (t 35)))) none) [az_e (az_i 0)] (aw_n hK 13 2540 (.iload 6) 2 rfl) rfl ?_
      refine aw_s 2545 (al i (some (az_e (az_i 0))) (some (.double (zmd (t 35)))) none) [] (aw_n hK 14 2542 (.ifCond .ne 35) 3 rfl) (aw_n0 (by decide)) ?_
      refine aw_s 2547 (al i (some (az_e (az_i 0))) (some (.double (zmd (t 35)))) none) [.ref 44] (aw_n hK 15 2545 (.aload 4) 2 rfl) rfl ?_
      refine aw_s 2548 (al i (some (az_e (az_i 0))) (some (.double (zmd (t 35)))) none) [.int (Int32.ofInt 0), .ref 44] (aw_n hK 16 2547 (.iconst 0) 1 rfl) rfl ?_
      refine aw_h 2549 [.double (gd3 44 0)] t3 gl3 gd3 (aw_n hK 17 2548 (.daload) 1 rfl) rfl aw_dl rfl ?_
      rw [hd]
      refine aw_s 2551 (al i (some (az_e (az_i 0))) (some (.double (zmd (t 35)))) none) [.double (zmd (t 35)), .double (zmd (t 35))] (aw_n hK 18 2549 (.dload 7) 2 rfl) rfl ?_
      refine aw_s 2552 (al i (some (az_e (az_i 0))) (some (.double (zmd (t 35)))) none) [.int 0] (aw_n hK 19 2551 (.dcmp .l) 1 rfl) ?_ ?_
      · show some (2552, (al i (some (az_e (az_i 0))) (some (.double (zmd (t 35)))) none), [Value.int (Op.cmpValue (FP.dcmp (zmd (t 35)) (zmd (t 35))) .l)]) = _
        rw [(zmd_ok hI hn).2]
      refine aw_s 2577 (al i (some (az_e (az_i 0))) (some (.double (zmd (t 35)))) none) [] (aw_n hK 20 2552 (.ifCond .eq 25) 3 rfl) (aw_e0 (by decide)) ?_
      refine aw_s 2747 (al i (some (az_e (az_i 0))) (some (.double (zmd (t 35)))) none) [] (aw_n hK 35 2577 (.goto 170) 3 rfl) rfl ?_
      exact K _ _ _ _ _ _ w1
theorem lc_countedShare {L : Nat} {xs : Nat → Int32} {s : az_S} {gl : Nat → Nat → Int64} {gd : Nat → Nat → UInt64} {N : Nat} {Q : Option Value ⊕ Nat → az_S → (Nat → Nat → Int64) → (Nat → Nat → UInt64) → Prop} {i : Nat} {o6 o7 o8 : Option Value} {h : Nat} (H : zyS s h) (hh : h + 10 ≤ 10000) (hL : i + 5 ≤ L ∧ L < 2147483648) (K : ∀ t gl2 gd2 o6 o7 o8, zyS t (h + 10) → aw_R L xs 14 am_m_L_law 2747 (al i o6 o7 o8) [] t gl2 gd2 N Q) : aw_R L xs 14 am_m_L_law 2580 (al i o6 o7 o8) [] s gl gd (N + 1) Q := by
  have hK : ∀ q, q ∈ ([(2580, .aload_n 1, 1), (2581, .aload 4, 2), (2583, .invokestatic 291, 3), (2586, .istore 6, 2), (2588, .aload_n 2, 1), (2589, .invokevirtual 293, 3), (2592, .fstore 7, 2), (2594, .aload_n 2, 1), (2595, .invokevirtual 156, 3), (2598, .iload 6, 2), (2600, .if_icmp .eq 5, 3), (2603, .iconst 0, 1), (2604, .ireturn, 1), (2605, .iload 6, 2), (2607, .ifCond .ne 36, 3), (2610, .aload 4, 2), (2612, .iconst 0, 1), (2613, .daload, 1), (2614, .fload 7, 2), (2616, .f2d, 1), (2617, .dcmp .l, 1), (2618, .ifCond .eq 25, 3), (2621, .aload 4, 2), (2623, .iconst 0, 1), (2624, .daload, 1), (2625, .aload 4, 2), (2627, .iconst 0, 1), (2628, .daload, 1), (2629, .dcmp .l, 1), (2630, .ifCond .eq 11, 3), (2633, .fload 7, 2), (2635, .fload 7, 2), (2637, .fcmp .l, 1), (2638, .ifCond .ne 5, 3), (2641, .iconst 0, 1), (2642, .ireturn, 1), (2643, .goto 104, 3)] : List (Nat × Instr × Nat)) → am_find q.1 am_c_L_law = some q.2 := by decide +kernel
  have hI := H.1.2.1
  refine aw_s 2581 (al i o6 o7 o8) (List.map az_e [az_r 0]) (aw_n hK 0 2580 (.aload_n 1) 1 rfl) rfl ?_
  refine aw_s 2583 (al i o6 o7 o8) (List.map az_e [az_r 44, az_r 0]) (aw_n hK 1 2581 (.aload 4) 2 rfl) rfl ?_
  refine aw_w (d := 13) (N1 := 1) (N2 := N) 2586 (st := [az_r 44, az_r 0]) (aw_n hK 2 2583 (.invokestatic 291) 3 rfl) rfl rfl (by omega) (wl_countedShare H.1.1 hI (by omega)) (fun v t gl2 gd2 q => ?_) (fun E t gl2 gd2 q => by obtain ⟨_, _, ⟨_, w⟩ | ⟨_, _, w⟩⟩ := q <;> cases w)
  obtain ⟨rfl, rfl, q⟩ := q
  rcases q with ⟨hn, q⟩ | ⟨hn, hd, q⟩
  · cases q
    refine aw_s 2588 (al i (some (az_e (az_i 1))) o7 o8) [] (aw_n hK 3 2586 (.istore 6) 2 rfl) rfl ?_
    refine aw_s 2589 (al i (some (az_e (az_i 1))) o7 o8) (List.map az_e [az_r 34]) (aw_n hK 4 2588 (.aload_n 2) 1 rfl) rfl ?_
    refine aw_w (d := 13) (N1 := 0) (N2 := N) 2592 (st := [az_r 34]) (aw_n hK 5 2589 (.invokevirtual 293) 3 rfl) rfl rfl (by omega) (wd_X10_countedShare rfl hI (by omega)) (fun v t2 gl3 gd3 q => ?_) (fun E t gl2 gd2 q => by obtain ⟨_, _, ⟨_, _, w⟩ | ⟨_, _, w⟩⟩ := q <;> cases w)
    obtain ⟨rfl, rfl, q⟩ := q
    rcases q with ⟨hn2, hm, q⟩ | ⟨hn2, hm, q⟩
    · cases q
      have w1 := zyS_q H (zFq_r _) hm
      refine aw_s 2594 (al i (some (az_e (az_i 1))) (some (.float 0)) o8) [] (aw_n hK 6 2592 (.fstore 7) 2 rfl) rfl ?_
      refine aw_s 2595 (al i (some (az_e (az_i 1))) (some (.float 0)) o8) [.ref 34] (aw_n hK 7 2594 (.aload_n 2) 1 rfl) rfl ?_
      refine aw_c (d := 13) 2598 (st := [az_r 34]) (aw_n hK 8 2595 (.invokevirtual 156) 3 rfl) rfl rfl (zs_X10_thrown (s := t2) (by decide)) (fun v9 t3 q9 => ?_) (fun E t q => by cases q.1)
      obtain ⟨q1, rfl⟩ := q9
      cases q1
      show aw_R L xs 14 am_m_L_law 2598 _ [az_e (az_i (t3 34 6))] t3 _ _ _ _
      rw [hm.1]
      refine aw_s 2600 (al i (some (az_e (az_i 1))) (some (.float 0)) o8) [az_e (az_i 1), az_e (az_i 1)] (aw_n hK 9 2598 (.iload 6) 2 rfl) rfl ?_
      refine aw_s 2605 (al i (some (az_e (az_i 1))) (some (.float 0)) o8) [] (aw_n hK 10 2600 (.if_icmp .eq 5) 3 rfl) (aw_if (by decide)) ?_
      refine aw_s 2607 (al i (some (az_e (az_i 1))) (some (.float 0)) o8) [az_e (az_i 1)] (aw_n hK 13 2605 (.iload 6) 2 rfl) rfl ?_
      refine aw_s 2643 (al i (some (az_e (az_i 1))) (some (.float 0)) o8) [] (aw_n hK 14 2607 (.ifCond .ne 36) 3 rfl) (aw_n1 ⟨⟨by decide, by decide⟩, by decide⟩ (by decide)) ?_
      refine aw_s 2747 (al i (some (az_e (az_i 1))) (some (.float 0)) o8) [] (aw_n hK 36 2643 (.goto 104) 3 rfl) rfl ?_
      exact K _ _ _ _ _ _ w1
    · exact absurd hn hn2
  · cases q
    refine aw_s 2588 (al i (some (az_e (az_i 0))) o7 o8) [] (aw_n hK 3 2586 (.istore 6) 2 rfl) rfl ?_
    refine aw_s 2589 (al i (some (az_e (az_i 0))) o7 o8) (List.map az_e [az_r 34]) (aw_n hK 4 2588 (.aload_n 2) 1 rfl) rfl ?_
    refine aw_w (d := 13) (N1 := 0) (N2 := N) 2592 (st := [az_r 34]) (aw_n hK 5 2589 (.invokevirtual 293) 3 rfl) rfl rfl (by omega) (wd_X10_countedShare rfl hI (by omega)) (fun v t2 gl3 gd3 q => ?_) (fun E t gl2 gd2 q => by obtain ⟨_, _, ⟨_, _, w⟩ | ⟨_, _, w⟩⟩ := q <;> cases w)
    obtain ⟨rfl, rfl, q⟩ := q
    rcases q with ⟨hn2, hm, q⟩ | ⟨hn2, hm, q⟩
    · exact absurd hn2 hn
    · cases q
      have w1 := zyS_q H (zFq_r _) hm
      refine aw_s 2594 (al i (some (az_e (az_i 0))) (some (.float (zmf (t 35)))) o8) [] (aw_n hK 6 2592 (.fstore 7) 2 rfl) rfl ?_
      refine aw_s 2595 (al i (some (az_e (az_i 0))) (some (.float (zmf (t 35)))) o8) [.ref 34] (aw_n hK 7 2594 (.aload_n 2) 1 rfl) rfl ?_
      refine aw_c (d := 13) 2598 (st := [az_r 34]) (aw_n hK 8 2595 (.invokevirtual 156) 3 rfl) rfl rfl (zs_X10_thrown (s := t2) (by decide)) (fun v9 t3 q9 => ?_) (fun E t q => by cases q.1)
      obtain ⟨q1, rfl⟩ := q9
      cases q1
      show aw_R L xs 14 am_m_L_law 2598 _ [az_e (az_i (t3 34 6))] t3 _ _ _ _
      rw [hm.1]
      refine aw_s 2600 (al i (some (az_e (az_i 0))) (some (.float (zmf (t 35)))) o8) [az_e (az_i 0), az_e (az_i 0)] (aw_n hK 9 2598 (.iload 6) 2 rfl) rfl ?_
      refine aw_s 2605 (al i (some (az_e (az_i 0))) (some (.float (zmf (t 35)))) o8) [] (aw_n hK 10 2600 (.if_icmp .eq 5) 3 rfl) (aw_if (by decide)) ?_
      refine aw_s 2607 (al i (some (az_e (az_i 0))) (some (.float (zmf (t 35)))) o8) [az_e (az_i 0)] (aw_n hK 13 2605 (.iload 6) 2 rfl) rfl ?_
      refine aw_s 2610 (al i (some (az_e (az_i 0))) (some (.float (zmf (t 35)))) o8) [] (aw_n hK 14 2607 (.ifCond .ne 36) 3 rfl) (aw_n0 (by decide)) ?_
      refine aw_s 2612 (al i (some (az_e (az_i 0))) (some (.float (zmf (t 35)))) o8) [.ref 44] (aw_n hK 15 2610 (.aload 4) 2 rfl) rfl ?_
      refine aw_s 2613 (al i (some (az_e (az_i 0))) (some (.float (zmf (t 35)))) o8) [.int (Int32.ofInt 0), .ref 44] (aw_n hK 16 2612 (.iconst 0) 1 rfl) rfl ?_
      refine aw_h 2614 [.double (gd3 44 0)] t3 gl3 gd3 (aw_n hK 17 2613 (.daload) 1 rfl) rfl aw_dl rfl ?_
      rw [hd]
      refine aw_s 2616 (al i (some (az_e (az_i 0))) (some (.float (zmf (t 35)))) o8) [.float (zmf (t 35)), .double (FP.f2d (zmf (t 35)))] (aw_n hK 18 2614 (.fload 7) 2 rfl) rfl ?_
      refine aw_s 2617 (al i (some (az_e (az_i 0))) (some (.float (zmf (t 35)))) o8) [.double (FP.f2d (zmf (t 35))), .double (FP.f2d (zmf (t 35)))] (aw_n hK 19 2616 (.f2d) 1 rfl) ?_ ?_
      · show (if FP.f2d (zmf (t 35)) &&& 0x7fffffffffffffff ≤ 0x7ff0000000000000 then some (2617, (al i (some (az_e (az_i 0))) (some (.float (zmf (t 35)))) o8), [Value.double (FP.f2d (zmf (t 35))), .double (FP.f2d (zmf (t 35)))]) else none) = _
        exact if_pos (zmf_ok hI hn).2.1
      refine aw_s 2618 (al i (some (az_e (az_i 0))) (some (.float (zmf (t 35)))) o8) [.int 0] (aw_n hK 20 2617 (.dcmp .l) 1 rfl) ?_ ?_
      · show some (2618, (al i (some (az_e (az_i 0))) (some (.float (zmf (t 35)))) o8), [Value.int (Op.cmpValue (FP.dcmp (FP.f2d (zmf (t 35))) (FP.f2d (zmf (t 35)))) .l)]) = _
        rw [(zmf_ok hI hn).2.2]
      refine aw_s 2643 (al i (some (az_e (az_i 0))) (some (.float (zmf (t 35)))) o8) [] (aw_n hK 21 2618 (.ifCond .eq 25) 3 rfl) (aw_e0 (by decide)) ?_
      refine aw_s 2747 (al i (some (az_e (az_i 0))) (some (.float (zmf (t 35)))) o8) [] (aw_n hK 36 2643 (.goto 104) 3 rfl) rfl ?_
      exact K _ _ _ _ _ _ w1
