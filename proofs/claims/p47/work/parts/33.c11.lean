/-! CLASS, 11: telling a bridge; written by program (wip/tools/zg/s11.py) -/
theorem zFl_t {s t u : az_S} (h1 : zFl s t) (h2 : zFl t u) : zFl s u := ⟨fun i i1 i2 => by rw [h2.1 i i1 i2, h1.1 i i1 i2], by rw [h2.2.1, h1.2.1], by rw [h2.2.2, h1.2.2]⟩
theorem zLn_0 {s : az_S} (h : s 30 1 = 16) : zLn (am_up s 30 2 (0)) [] ∧ zFl s (am_up s 30 2 (0)) := by
  refine ⟨⟨by simp [am_up, h], by simp [am_up], fun i hi => absurd hi (by simp)⟩, fun i i1 i2 => ?_, by simp [am_up], by simp [am_up]⟩
  funext j
  simp [am_up, i1]
def zFM (s t : az_S) : Prop := (∀ i, i ≠ 34 → i ≠ 40 → t i = s i) ∧ ∀ j, j ≠ 14 → t 34 j = s 34 j
theorem zFM_t {s t u : az_S} (h1 : zFM s t) (h2 : zFM t u) : zFM s u := ⟨fun i i1 i2 => by rw [h2.1 i i1 i2, h1.1 i i1 i2], fun j hj => by rw [h2.2 j hj, h1.2 j hj]⟩
theorem zFM_r (s : az_S) : zFM s s := ⟨fun _ _ _ => rfl, fun _ _ => rfl⟩
theorem zLm_0 (s : az_S) : zLm (am_up s 34 14 (0)) [] ∧ zFM s (am_up s 34 14 (0)) := by
  refine ⟨⟨by simp [am_up], fun i hi => absurd hi (by simp)⟩, fun i i1 i2 => ?_, fun j hj => by simp [am_up, hj]⟩
  funext j
  simp [am_up, i1]
theorem zLm_ap {s : az_S} {l : List Int} {c : Int} (h : zLm s l) : zLm (am_up (am_up s 40 l.length c) 34 14 (((l.length : Nat) : Int) + 1)) (l ++ [c]) ∧ zFM s (am_up (am_up s 40 l.length c) 34 14 (((l.length : Nat) : Int) + 1)) := by
  obtain ⟨h2, h3⟩ := h
  refine ⟨⟨by simp [am_up], fun i hi => ?_⟩, fun i i1 i2 => ?_, fun j hj => by simp [am_up, hj]⟩
  · simp only [List.length_append, List.length_cons, List.length_nil] at hi
    by_cases q : i = l.length
    · rw [q, List.getElem?_append_right (Nat.le_refl _), Nat.sub_self]
      simp [am_up]
    · rw [List.getElem?_append_left (by omega), h3 i (by omega)]
      simp [am_up, q]
  · funext j
    simp [am_up, i1, i2]
set_option maxRecDepth 100000 in
set_option maxHeartbeats 800000 in
theorem zs_X9_tell {d : Nat} {s : az_S} (hd : 5 ≤ d) {S : zR} {h : Nat} (hR : zRel (s 3) S) (hI : zInv S h) (hh : h ≤ 10000) {zb : Int} (h_zb : az_in zb) (h116 : s 30 1 = 16) : az_R d am_m_X9_tell 0 (az_ini (am_mL am_m_X9_tell) [az_r 0, az_i (zb)]) [] (s) (fun o t => o = zoe [3] (zq_tell S zb) ∧ ((zq_tell S zb).1 = 0 → zLn t (zline S zb.toNat) ∧ zFl s t) ∧ ((zq_tell S zb).1 ≠ 0 → t = s)) := by
  have hz := zI_h hI hh
  refine az_to 0 (pc2 := 0) (lv2 := [some (az_r 0), some (az_i (zb))]) (st2 := []) (s2 := s) rfl ?_
  refine az_to 2 (pc2 := 2) (lv2 := [some (az_r 0), some (az_i (zb))]) (st2 := [az_i (zb), az_r 0]) (s2 := s) rfl ?_
  by_cases h1 : 0 ≤ zb ∧ zb < ((zn S 0 : Nat) : Int)
  · skip
    obtain ⟨b, rfl⟩ : ∃ n0 : Nat, zb = n0 := ⟨zb.toNat, by omega⟩
    have hzb := zI_b hI hh (b := b) (by omega)
    refine az_to 0 (pc2 := 2) (lv2 := [some (az_r 0), some (az_i (((b : Nat) : Int)))]) (st2 := [az_i (((b : Nat) : Int)), az_r 0]) (s2 := s) (rfl) ?_
    by_cases h2 : 0 ≤ (((b : Nat) : Int)) ∧ (((b : Nat) : Int)) < ((zn S 0 : Nat) : Int)
    · skip
      refine az_clv (v := none) (t := s) (m2 := am_m_X9_needBridge) (as := [az_r 0, az_i (((b : Nat) : Int))]) (rest := []) 5 rfl rfl ⟨rfl, rfl⟩ (by omega) (zs_X9_needBridge_y (s := s) (z := (((b : Nat) : Int))) (by omega) hR hI hh (by first | assumption | exact ⟨by omega, by omega⟩) (by first | assumption | omega)) ?_
      refine az_to 0 (pc2 := 5) (lv2 := [some (az_r 0), some (az_i (((b : Nat) : Int)))]) (st2 := []) (s2 := s) rfl ?_
      refine az_to 2 (pc2 := 9) (lv2 := [some (az_r 0), some (az_i (((b : Nat) : Int)))]) (st2 := [az_r 30]) (s2 := s) rfl ?_
      refine az_clv (v := none) (t := am_up s 30 2 (0)) (m2 := am_m_X3_clear) (as := [az_r 30]) (rest := []) 12 rfl rfl ⟨rfl, rfl⟩ (by omega) (zs_X3_clear_30 (s := s)  (by omega) ) ?_
      refine az_to 0 (pc2 := 12) (lv2 := [some (az_r 0), some (az_i (((b : Nat) : Int)))]) (st2 := []) (s2 := am_up s 30 2 (0)) rfl ?_
      have hl0 := (zLn_0 h116).1
      have hF0 := (zLn_0 h116).2
      have hR0 : zRel (am_up s 30 2 (0) 3) S := hR
      refine az_to 3 (pc2 := 17) (lv2 := [some (az_r 0), some (az_i (((b : Nat) : Int)))]) (st2 := [az_i (((b : Nat) : Int)), az_r 30]) (s2 := am_up s 30 2 (0)) rfl ?_
      refine az_cl (m2 := am_m_X3_appendDigit) (as := [az_r 30, az_i (((b : Nat) : Int))]) (rest := []) 20 rfl rfl ⟨rfl, rfl⟩ (by omega) (zs_X3_appendDigit_30 (s := am_up s 30 2 (0)) (dg := (((b : Nat) : Int))) (by omega) hl0 (by simp) (by omega)) (fun v3 t3 q3 => ?_) (fun E t3 q3 => by cases q3.1)
      obtain ⟨o3, hl3, hf3⟩ := q3
      cases o3
      refine az_to 0 (pc2 := 20) (lv2 := [some (az_r 0), some (az_i (((b : Nat) : Int)))]) (st2 := []) (s2 := t3) rfl ?_
      have hR3 : zRel (t3 3) S := by rw [hf3.1 3 (by decide) (by decide)]; exact hR0
      have hF3 := zFl_t hF0 hf3
      refine az_to 3 (pc2 := 26) (lv2 := [some (az_r 0), some (az_i (((b : Nat) : Int)))]) (st2 := [az_i (58), az_r 30]) (s2 := t3) rfl ?_
      refine az_cl (m2 := am_m_X3_append) (as := [az_r 30, az_i (58)]) (rest := []) 29 rfl rfl ⟨rfl, rfl⟩ (by omega) (zs_X3_append_30 (s := t3) (ch := 58) (by omega) hl3 (by simp)) (fun v4 t4 q4 => ?_) (fun E t4 q4 => by cases q4.1)
      obtain ⟨o4, hl4, hf4⟩ := q4
      cases o4
      refine az_to 0 (pc2 := 29) (lv2 := [some (az_r 0), some (az_i (((b : Nat) : Int)))]) (st2 := [az_i (1)]) (s2 := t4) rfl ?_
      have hR4 : zRel (t4 3) S := by rw [hf4.1 3 (by decide) (by decide)]; exact hR3
      have hF4 := zFl_t hF3 hf4
      refine az_to 7 (pc2 := 40) (lv2 := [some (az_r 0), some (az_i (((b : Nat) : Int)))]) (st2 := [az_i (0), az_i (((b : Nat) : Int)), az_r 1, az_r 30]) (s2 := t4) rfl ?_
      refine az_clv (v := some (az_i (zB S b 0))) (t := t4) (m2 := am_m_X8_ofBridge) (as := [az_r 1, az_i (((b : Nat) : Int)), az_i (0)]) (rest := [az_r 30]) 43 rfl rfl ⟨rfl, rfl⟩ (by omega) (zs_X8_ofBridge (s := t4) (b := b) (k := 0) (by omega) hR4 (by omega) (by omega) (by omega)) ?_
      refine az_to 0 (pc2 := 43) (lv2 := [some (az_r 0), some (az_i (((b : Nat) : Int)))]) (st2 := [az_i (zB S b 0), az_r 30]) (s2 := t4) rfl ?_
      refine az_cl (m2 := am_m_X3_appendDigit) (as := [az_r 30, az_i (zB S b 0)]) (rest := []) 46 rfl rfl ⟨rfl, rfl⟩ (by omega) (zs_X3_appendDigit_30 (s := t4) (dg := (zB S b 0)) (by omega) hl4 (by simp) (by omega)) (fun v5 t5 q5 => ?_) (fun E t5 q5 => by cases q5.1)
      obtain ⟨o5, hl5, hf5⟩ := q5
      cases o5
      refine az_to 0 (pc2 := 46) (lv2 := [some (az_r 0), some (az_i (((b : Nat) : Int)))]) (st2 := []) (s2 := t5) rfl ?_
      have hR5 : zRel (t5 3) S := by rw [hf5.1 3 (by decide) (by decide)]; exact hR4
      have hF5 := zFl_t hF4 hf5
      refine az_to 6 (pc2 := 56) (lv2 := [some (az_r 0), some (az_i (((b : Nat) : Int)))]) (st2 := [az_i (1), az_i (((b : Nat) : Int)), az_r 1, az_r 30]) (s2 := t5) rfl ?_
      refine az_clv (v := some (az_i (zB S b 1))) (t := t5) (m2 := am_m_X8_ofBridge) (as := [az_r 1, az_i (((b : Nat) : Int)), az_i (1)]) (rest := [az_r 30]) 59 rfl rfl ⟨rfl, rfl⟩ (by omega) (zs_X8_ofBridge (s := t5) (b := b) (k := 1) (by omega) hR5 (by omega) (by omega) (by omega)) ?_
      refine az_to 0 (pc2 := 59) (lv2 := [some (az_r 0), some (az_i (((b : Nat) : Int)))]) (st2 := [az_i (zB S b 1), az_r 30]) (s2 := t5) rfl ?_
      refine az_cl (m2 := am_m_X3_appendDigit) (as := [az_r 30, az_i (zB S b 1)]) (rest := []) 62 rfl rfl ⟨rfl, rfl⟩ (by omega) (zs_X3_appendDigit_30 (s := t5) (dg := (zB S b 1)) (by omega) hl5 (by simp) (by omega)) (fun v6 t6 q6 => ?_) (fun E t6 q6 => by cases q6.1)
      obtain ⟨o6, hl6, hf6⟩ := q6
      cases o6
      refine az_to 0 (pc2 := 62) (lv2 := [some (az_r 0), some (az_i (((b : Nat) : Int)))]) (st2 := []) (s2 := t6) rfl ?_
      have hR6 : zRel (t6 3) S := by rw [hf6.1 3 (by decide) (by decide)]; exact hR5
      have hF6 := zFl_t hF5 hf6
      refine az_to 3 (pc2 := 68) (lv2 := [some (az_r 0), some (az_i (((b : Nat) : Int)))]) (st2 := [az_i (42), az_r 30]) (s2 := t6) rfl ?_
      refine az_cl (m2 := am_m_X3_append) (as := [az_r 30, az_i (42)]) (rest := []) 71 rfl rfl ⟨rfl, rfl⟩ (by omega) (zs_X3_append_30 (s := t6) (ch := 42) (by omega) hl6 (by simp)) (fun v7 t7 q7 => ?_) (fun E t7 q7 => by cases q7.1)
      obtain ⟨o7, hl7, hf7⟩ := q7
      cases o7
      refine az_to 0 (pc2 := 71) (lv2 := [some (az_r 0), some (az_i (((b : Nat) : Int)))]) (st2 := [az_i (1)]) (s2 := t7) rfl ?_
      have hR7 : zRel (t7 3) S := by rw [hf7.1 3 (by decide) (by decide)]; exact hR6
      have hF7 := zFl_t hF6 hf7
      refine az_to 7 (pc2 := 82) (lv2 := [some (az_r 0), some (az_i (((b : Nat) : Int)))]) (st2 := [az_i (2), az_i (((b : Nat) : Int)), az_r 1, az_r 30]) (s2 := t7) rfl ?_
      refine az_clv (v := some (az_i (zB S b 2))) (t := t7) (m2 := am_m_X8_ofBridge) (as := [az_r 1, az_i (((b : Nat) : Int)), az_i (2)]) (rest := [az_r 30]) 85 rfl rfl ⟨rfl, rfl⟩ (by omega) (zs_X8_ofBridge (s := t7) (b := b) (k := 2) (by omega) hR7 (by omega) (by omega) (by omega)) ?_
      refine az_to 0 (pc2 := 85) (lv2 := [some (az_r 0), some (az_i (((b : Nat) : Int)))]) (st2 := [az_i (zB S b 2), az_r 30]) (s2 := t7) rfl ?_
      refine az_cl (m2 := am_m_X3_appendDigit) (as := [az_r 30, az_i (zB S b 2)]) (rest := []) 88 rfl rfl ⟨rfl, rfl⟩ (by omega) (zs_X3_appendDigit_30 (s := t7) (dg := (zB S b 2)) (by omega) hl7 (by simp) (by omega)) (fun v8 t8 q8 => ?_) (fun E t8 q8 => by cases q8.1)
      obtain ⟨o8, hl8, hf8⟩ := q8
      cases o8
      refine az_to 0 (pc2 := 88) (lv2 := [some (az_r 0), some (az_i (((b : Nat) : Int)))]) (st2 := []) (s2 := t8) rfl ?_
      have hR8 : zRel (t8 3) S := by rw [hf8.1 3 (by decide) (by decide)]; exact hR7
      have hF8 := zFl_t hF7 hf8
      refine az_to 3 (pc2 := 94) (lv2 := [some (az_r 0), some (az_i (((b : Nat) : Int)))]) (st2 := [az_i (36), az_r 30]) (s2 := t8) rfl ?_
      refine az_cl (m2 := am_m_X3_append) (as := [az_r 30, az_i (36)]) (rest := []) 97 rfl rfl ⟨rfl, rfl⟩ (by omega) (zs_X3_append_30 (s := t8) (ch := 36) (by omega) hl8 (by simp)) (fun v9 t9 q9 => ?_) (fun E t9 q9 => by cases q9.1)
      obtain ⟨o9, hl9, hf9⟩ := q9
      cases o9
      refine az_to 0 (pc2 := 97) (lv2 := [some (az_r 0), some (az_i (((b : Nat) : Int)))]) (st2 := [az_i (1)]) (s2 := t9) rfl ?_
      have hR9 : zRel (t9 3) S := by rw [hf9.1 3 (by decide) (by decide)]; exact hR8
      have hF9 := zFl_t hF8 hf9
      refine az_to 7 (pc2 := 108) (lv2 := [some (az_r 0), some (az_i (((b : Nat) : Int)))]) (st2 := [az_i (3), az_i (((b : Nat) : Int)), az_r 1, az_r 30]) (s2 := t9) rfl ?_
      refine az_clv (v := some (az_i (zB S b 3))) (t := t9) (m2 := am_m_X8_ofBridge) (as := [az_r 1, az_i (((b : Nat) : Int)), az_i (3)]) (rest := [az_r 30]) 111 rfl rfl ⟨rfl, rfl⟩ (by omega) (zs_X8_ofBridge (s := t9) (b := b) (k := 3) (by omega) hR9 (by omega) (by omega) (by omega)) ?_
      refine az_to 0 (pc2 := 111) (lv2 := [some (az_r 0), some (az_i (((b : Nat) : Int)))]) (st2 := [az_i (zB S b 3), az_r 30]) (s2 := t9) rfl ?_
      refine az_cl (m2 := am_m_X3_appendDigit) (as := [az_r 30, az_i (zB S b 3)]) (rest := []) 114 rfl rfl ⟨rfl, rfl⟩ (by omega) (zs_X3_appendDigit_30 (s := t9) (dg := (zB S b 3)) (by omega) hl9 (by simp) (by omega)) (fun v10 t10 q10 => ?_) (fun E t10 q10 => by cases q10.1)
      obtain ⟨o10, hl10, hf10⟩ := q10
      cases o10
      refine az_to 0 (pc2 := 114) (lv2 := [some (az_r 0), some (az_i (((b : Nat) : Int)))]) (st2 := []) (s2 := t10) rfl ?_
      have hR10 : zRel (t10 3) S := by rw [hf10.1 3 (by decide) (by decide)]; exact hR9
      have hF10 := zFl_t hF9 hf10
      refine az_to 3 (pc2 := 119) (lv2 := [some (az_r 0), some (az_i (((b : Nat) : Int)))]) (st2 := [az_i (((b : Nat) : Int)), az_r 1]) (s2 := t10) rfl ?_
      refine az_clv (v := some (az_i (az_b (0 ≤ zat S b)))) (t := t10) (m2 := am_m_X8_isCounted) (as := [az_r 1, az_i (((b : Nat) : Int))]) (rest := []) 122 rfl rfl ⟨rfl, rfl⟩ (by omega) (zs_X8_isCounted (s := t10) (b := b) (by omega) hR10 hI hh (by omega)) ?_
      refine az_to 0 (pc2 := 122) (lv2 := [some (az_r 0), some (az_i (((b : Nat) : Int)))]) (st2 := [az_i (az_b (0 ≤ zat S b))]) (s2 := t10) rfl ?_
      refine az_ifbe 151 125 rfl (by decide) (fun h11 => ?_) (fun h11 => ?_)
      · have h11 : ¬ (0 ≤ zat S b) := h11
        refine az_to 3 (pc2 := 156) (lv2 := [some (az_r 0), some (az_i (((b : Nat) : Int)))]) (st2 := [az_i (((b : Nat) : Int)), az_r 1]) (s2 := t10) rfl ?_
        refine az_clv (v := some (az_i (az_b (S 3 < zB S b 4)))) (t := t10) (m2 := am_m_X8_isInFog) (as := [az_r 1, az_i (((b : Nat) : Int))]) (rest := []) 159 rfl rfl ⟨rfl, rfl⟩ (by omega) (zs_X8_isInFog (s := t10) (b := b) (by omega) hR10 hI hh (by omega)) ?_
        refine az_to 0 (pc2 := 159) (lv2 := [some (az_r 0), some (az_i (((b : Nat) : Int)))]) (st2 := [az_i (az_b (S 3 < zB S b 4))]) (s2 := t10) rfl ?_
        refine az_ifbe 172 162 rfl (by decide) (fun h12 => ?_) (fun h12 => ?_)
        · have h12 : ¬ (S 3 < zB S b 4) := h12
          refine az_to 3 (pc2 := 177) (lv2 := [some (az_r 0), some (az_i (((b : Nat) : Int)))]) (st2 := [az_i (((b : Nat) : Int)), az_r 1]) (s2 := t10) rfl ?_
          refine az_clv (v := some (az_i (az_b (0 ≤ zB S b 5)))) (t := t10) (m2 := am_m_X8_isDisputed) (as := [az_r 1, az_i (((b : Nat) : Int))]) (rest := []) 180 rfl rfl ⟨rfl, rfl⟩ (by omega) (zs_X8_isDisputed (s := t10) (b := b) (by omega) hR10 hI hh (by omega)) ?_
          refine az_to 0 (pc2 := 180) (lv2 := [some (az_r 0), some (az_i (((b : Nat) : Int)))]) (st2 := [az_i (az_b (0 ≤ zB S b 5))]) (s2 := t10) rfl ?_
          refine az_ifbe 193 183 rfl (by decide) (fun h13 => ?_) (fun h13 => ?_)
          · have h13 : ¬ (0 ≤ zB S b 5) := h13
            refine az_to 2 (pc2 := 197) (lv2 := [some (az_r 0), some (az_i (((b : Nat) : Int)))]) (st2 := [az_r 30]) (s2 := t10) rfl ?_
            refine az_clv (v := some (az_i (((((((((((([] : List Int) ++ [48 + (((b : Nat) : Int))]) ++ [58]) ++ [48 + (zB S b 0)]) ++ [48 + (zB S b 1)]) ++ [42]) ++ [48 + (zB S b 2)]) ++ [36]) ++ [48 + (zB S b 3)]).length : Nat) : Int)))) (t := t10) (m2 := am_m_X3_length) (as := [az_r 30]) (rest := []) 200 rfl rfl ⟨rfl, rfl⟩ (by omega) (zs_X3_length_30l (s := t10) (l := ((((((((([] : List Int) ++ [48 + (((b : Nat) : Int))]) ++ [58]) ++ [48 + (zB S b 0)]) ++ [48 + (zB S b 1)]) ++ [42]) ++ [48 + (zB S b 2)]) ++ [36]) ++ [48 + (zB S b 3)])) (by omega) hl10) ?_
            refine az_to 0 (pc2 := 200) (lv2 := [some (az_r 0), some (az_i (((b : Nat) : Int)))]) (st2 := [az_i (((((((((((([] : List Int) ++ [48 + (((b : Nat) : Int))]) ++ [58]) ++ [48 + (zB S b 0)]) ++ [48 + (zB S b 1)]) ++ [42]) ++ [48 + (zB S b 2)]) ++ [36]) ++ [48 + (zB S b 3)]).length : Nat) : Int))]) (s2 := t10) rfl ?_
            refine az_retI rfl rfl ?_
            have e : zq_tell S ((b : Nat) : Int) = (0, ((zline S b).length : Int)) := by unfold zq_tell; rw [if_neg (by omega)]; rfl
            have e2 := hl10
            rw [show (((((((((([] : List Int) ++ [48 + (((b : Nat) : Int))]) ++ [58]) ++ [48 + (zB S b 0)]) ++ [48 + (zB S b 1)]) ++ [42]) ++ [48 + (zB S b 2)]) ++ [36]) ++ [48 + (zB S b 3)])) = zline S b from by simp [zline, *]] at e2
            rw [e]
            exact ⟨by rw [← e2.2.1, ← hl10.2.1]; rfl, fun _ => ⟨e2, hF10⟩, fun h => absurd rfl h⟩
          · have h13 : 0 ≤ zB S b 5 := h13
            refine az_to 3 (pc2 := 189) (lv2 := [some (az_r 0), some (az_i (((b : Nat) : Int)))]) (st2 := [az_i (63), az_r 30]) (s2 := t10) rfl ?_
            refine az_cl (m2 := am_m_X3_append) (as := [az_r 30, az_i (63)]) (rest := []) 192 rfl rfl ⟨rfl, rfl⟩ (by omega) (zs_X3_append_30 (s := t10) (ch := 63) (by omega) hl10 (by simp)) (fun v14 t14 q14 => ?_) (fun E t14 q14 => by cases q14.1)
            obtain ⟨o14, hl14, hf14⟩ := q14
            cases o14
            refine az_to 0 (pc2 := 192) (lv2 := [some (az_r 0), some (az_i (((b : Nat) : Int)))]) (st2 := [az_i (1)]) (s2 := t14) rfl ?_
            have hR14 : zRel (t14 3) S := by rw [hf14.1 3 (by decide) (by decide)]; exact hR10
            have hF14 := zFl_t hF10 hf14
            refine az_to 3 (pc2 := 197) (lv2 := [some (az_r 0), some (az_i (((b : Nat) : Int)))]) (st2 := [az_r 30]) (s2 := t14) rfl ?_
            refine az_clv (v := some (az_i ((((((((((((([] : List Int) ++ [48 + (((b : Nat) : Int))]) ++ [58]) ++ [48 + (zB S b 0)]) ++ [48 + (zB S b 1)]) ++ [42]) ++ [48 + (zB S b 2)]) ++ [36]) ++ [48 + (zB S b 3)]) ++ [63]).length : Nat) : Int)))) (t := t14) (m2 := am_m_X3_length) (as := [az_r 30]) (rest := []) 200 rfl rfl ⟨rfl, rfl⟩ (by omega) (zs_X3_length_30l (s := t14) (l := (((((((((([] : List Int) ++ [48 + (((b : Nat) : Int))]) ++ [58]) ++ [48 + (zB S b 0)]) ++ [48 + (zB S b 1)]) ++ [42]) ++ [48 + (zB S b 2)]) ++ [36]) ++ [48 + (zB S b 3)]) ++ [63])) (by omega) hl14) ?_
            refine az_to 0 (pc2 := 200) (lv2 := [some (az_r 0), some (az_i (((b : Nat) : Int)))]) (st2 := [az_i ((((((((((((([] : List Int) ++ [48 + (((b : Nat) : Int))]) ++ [58]) ++ [48 + (zB S b 0)]) ++ [48 + (zB S b 1)]) ++ [42]) ++ [48 + (zB S b 2)]) ++ [36]) ++ [48 + (zB S b 3)]) ++ [63]).length : Nat) : Int))]) (s2 := t14) rfl ?_
            refine az_retI rfl rfl ?_
            have e : zq_tell S ((b : Nat) : Int) = (0, ((zline S b).length : Int)) := by unfold zq_tell; rw [if_neg (by omega)]; rfl
            have e2 := hl14
            rw [show ((((((((((([] : List Int) ++ [48 + (((b : Nat) : Int))]) ++ [58]) ++ [48 + (zB S b 0)]) ++ [48 + (zB S b 1)]) ++ [42]) ++ [48 + (zB S b 2)]) ++ [36]) ++ [48 + (zB S b 3)]) ++ [63])) = zline S b from by simp [zline, *]] at e2
            rw [e]
            exact ⟨by rw [← e2.2.1, ← hl14.2.1]; rfl, fun _ => ⟨e2, hF14⟩, fun h => absurd rfl h⟩
        · have h12 : S 3 < zB S b 4 := h12
          refine az_to 3 (pc2 := 168) (lv2 := [some (az_r 0), some (az_i (((b : Nat) : Int)))]) (st2 := [az_i (126), az_r 30]) (s2 := t10) rfl ?_
          refine az_cl (m2 := am_m_X3_append) (as := [az_r 30, az_i (126)]) (rest := []) 171 rfl rfl ⟨rfl, rfl⟩ (by omega) (zs_X3_append_30 (s := t10) (ch := 126) (by omega) hl10 (by simp)) (fun v15 t15 q15 => ?_) (fun E t15 q15 => by cases q15.1)
          obtain ⟨o15, hl15, hf15⟩ := q15
          cases o15
          refine az_to 0 (pc2 := 171) (lv2 := [some (az_r 0), some (az_i (((b : Nat) : Int)))]) (st2 := [az_i (1)]) (s2 := t15) rfl ?_
          have hR15 : zRel (t15 3) S := by rw [hf15.1 3 (by decide) (by decide)]; exact hR10
          have hF15 := zFl_t hF10 hf15
          refine az_to 4 (pc2 := 177) (lv2 := [some (az_r 0), some (az_i (((b : Nat) : Int)))]) (st2 := [az_i (((b : Nat) : Int)), az_r 1]) (s2 := t15) rfl ?_
          refine az_clv (v := some (az_i (az_b (0 ≤ zB S b 5)))) (t := t15) (m2 := am_m_X8_isDisputed) (as := [az_r 1, az_i (((b : Nat) : Int))]) (rest := []) 180 rfl rfl ⟨rfl, rfl⟩ (by omega) (zs_X8_isDisputed (s := t15) (b := b) (by omega) hR15 hI hh (by omega)) ?_
          refine az_to 0 (pc2 := 180) (lv2 := [some (az_r 0), some (az_i (((b : Nat) : Int)))]) (st2 := [az_i (az_b (0 ≤ zB S b 5))]) (s2 := t15) rfl ?_
          refine az_ifbe 193 183 rfl (by decide) (fun h16 => ?_) (fun h16 => ?_)
          · have h16 : ¬ (0 ≤ zB S b 5) := h16
            refine az_to 2 (pc2 := 197) (lv2 := [some (az_r 0), some (az_i (((b : Nat) : Int)))]) (st2 := [az_r 30]) (s2 := t15) rfl ?_
            refine az_clv (v := some (az_i ((((((((((((([] : List Int) ++ [48 + (((b : Nat) : Int))]) ++ [58]) ++ [48 + (zB S b 0)]) ++ [48 + (zB S b 1)]) ++ [42]) ++ [48 + (zB S b 2)]) ++ [36]) ++ [48 + (zB S b 3)]) ++ [126]).length : Nat) : Int)))) (t := t15) (m2 := am_m_X3_length) (as := [az_r 30]) (rest := []) 200 rfl rfl ⟨rfl, rfl⟩ (by omega) (zs_X3_length_30l (s := t15) (l := (((((((((([] : List Int) ++ [48 + (((b : Nat) : Int))]) ++ [58]) ++ [48 + (zB S b 0)]) ++ [48 + (zB S b 1)]) ++ [42]) ++ [48 + (zB S b 2)]) ++ [36]) ++ [48 + (zB S b 3)]) ++ [126])) (by omega) hl15) ?_
            refine az_to 0 (pc2 := 200) (lv2 := [some (az_r 0), some (az_i (((b : Nat) : Int)))]) (st2 := [az_i ((((((((((((([] : List Int) ++ [48 + (((b : Nat) : Int))]) ++ [58]) ++ [48 + (zB S b 0)]) ++ [48 + (zB S b 1)]) ++ [42]) ++ [48 + (zB S b 2)]) ++ [36]) ++ [48 + (zB S b 3)]) ++ [126]).length : Nat) : Int))]) (s2 := t15) rfl ?_
            refine az_retI rfl rfl ?_
            have e : zq_tell S ((b : Nat) : Int) = (0, ((zline S b).length : Int)) := by unfold zq_tell; rw [if_neg (by omega)]; rfl
            have e2 := hl15
            rw [show ((((((((((([] : List Int) ++ [48 + (((b : Nat) : Int))]) ++ [58]) ++ [48 + (zB S b 0)]) ++ [48 + (zB S b 1)]) ++ [42]) ++ [48 + (zB S b 2)]) ++ [36]) ++ [48 + (zB S b 3)]) ++ [126])) = zline S b from by simp [zline, *]] at e2
            rw [e]
            exact ⟨by rw [← e2.2.1, ← hl15.2.1]; rfl, fun _ => ⟨e2, hF15⟩, fun h => absurd rfl h⟩
          · have h16 : 0 ≤ zB S b 5 := h16
            refine az_to 3 (pc2 := 189) (lv2 := [some (az_r 0), some (az_i (((b : Nat) : Int)))]) (st2 := [az_i (63), az_r 30]) (s2 := t15) rfl ?_
            refine az_cl (m2 := am_m_X3_append) (as := [az_r 30, az_i (63)]) (rest := []) 192 rfl rfl ⟨rfl, rfl⟩ (by omega) (zs_X3_append_30 (s := t15) (ch := 63) (by omega) hl15 (by simp)) (fun v17 t17 q17 => ?_) (fun E t17 q17 => by cases q17.1)
            obtain ⟨o17, hl17, hf17⟩ := q17
            cases o17
            refine az_to 0 (pc2 := 192) (lv2 := [some (az_r 0), some (az_i (((b : Nat) : Int)))]) (st2 := [az_i (1)]) (s2 := t17) rfl ?_
            have hR17 : zRel (t17 3) S := by rw [hf17.1 3 (by decide) (by decide)]; exact hR15
            have hF17 := zFl_t hF15 hf17
            refine az_to 3 (pc2 := 197) (lv2 := [some (az_r 0), some (az_i (((b : Nat) : Int)))]) (st2 := [az_r 30]) (s2 := t17) rfl ?_
            refine az_clv (v := some (az_i (((((((((((((([] : List Int) ++ [48 + (((b : Nat) : Int))]) ++ [58]) ++ [48 + (zB S b 0)]) ++ [48 + (zB S b 1)]) ++ [42]) ++ [48 + (zB S b 2)]) ++ [36]) ++ [48 + (zB S b 3)]) ++ [126]) ++ [63]).length : Nat) : Int)))) (t := t17) (m2 := am_m_X3_length) (as := [az_r 30]) (rest := []) 200 rfl rfl ⟨rfl, rfl⟩ (by omega) (zs_X3_length_30l (s := t17) (l := ((((((((((([] : List Int) ++ [48 + (((b : Nat) : Int))]) ++ [58]) ++ [48 + (zB S b 0)]) ++ [48 + (zB S b 1)]) ++ [42]) ++ [48 + (zB S b 2)]) ++ [36]) ++ [48 + (zB S b 3)]) ++ [126]) ++ [63])) (by omega) hl17) ?_
            refine az_to 0 (pc2 := 200) (lv2 := [some (az_r 0), some (az_i (((b : Nat) : Int)))]) (st2 := [az_i (((((((((((((([] : List Int) ++ [48 + (((b : Nat) : Int))]) ++ [58]) ++ [48 + (zB S b 0)]) ++ [48 + (zB S b 1)]) ++ [42]) ++ [48 + (zB S b 2)]) ++ [36]) ++ [48 + (zB S b 3)]) ++ [126]) ++ [63]).length : Nat) : Int))]) (s2 := t17) rfl ?_
            refine az_retI rfl rfl ?_
            have e : zq_tell S ((b : Nat) : Int) = (0, ((zline S b).length : Int)) := by unfold zq_tell; rw [if_neg (by omega)]; rfl
            have e2 := hl17
            rw [show (((((((((((([] : List Int) ++ [48 + (((b : Nat) : Int))]) ++ [58]) ++ [48 + (zB S b 0)]) ++ [48 + (zB S b 1)]) ++ [42]) ++ [48 + (zB S b 2)]) ++ [36]) ++ [48 + (zB S b 3)]) ++ [126]) ++ [63])) = zline S b from by simp [zline, *]] at e2
            rw [e]
            exact ⟨by rw [← e2.2.1, ← hl17.2.1]; rfl, fun _ => ⟨e2, hF17⟩, fun h => absurd rfl h⟩
      · have h11 : 0 ≤ zat S b := h11
        refine az_to 3 (pc2 := 131) (lv2 := [some (az_r 0), some (az_i (((b : Nat) : Int)))]) (st2 := [az_i (116), az_r 30]) (s2 := t10) rfl ?_
        refine az_cl (m2 := am_m_X3_append) (as := [az_r 30, az_i (116)]) (rest := []) 134 rfl rfl ⟨rfl, rfl⟩ (by omega) (zs_X3_append_30 (s := t10) (ch := 116) (by omega) hl10 (by simp)) (fun v18 t18 q18 => ?_) (fun E t18 q18 => by cases q18.1)
        obtain ⟨o18, hl18, hf18⟩ := q18
        cases o18
        refine az_to 0 (pc2 := 134) (lv2 := [some (az_r 0), some (az_i (((b : Nat) : Int)))]) (st2 := [az_i (1)]) (s2 := t18) rfl ?_
        have hR18 : zRel (t18 3) S := by rw [hf18.1 3 (by decide) (by decide)]; exact hR10
        have hF18 := zFl_t hF10 hf18
        refine az_to 7 (pc2 := 145) (lv2 := [some (az_r 0), some (az_i (((b : Nat) : Int)))]) (st2 := [az_i (4), az_i (((b : Nat) : Int)), az_r 1, az_r 30]) (s2 := t18) rfl ?_
        refine az_clv (v := some (az_i (zat S b))) (t := t18) (m2 := am_m_X8_ofBridge) (as := [az_r 1, az_i (((b : Nat) : Int)), az_i (4)]) (rest := [az_r 30]) 148 rfl rfl ⟨rfl, rfl⟩ (by omega) (zs_X8_ofBridge (s := t18) (b := b) (k := 4) (by omega) hR18 (by omega) (by omega) (by omega)) ?_
        refine az_to 0 (pc2 := 148) (lv2 := [some (az_r 0), some (az_i (((b : Nat) : Int)))]) (st2 := [az_i (zat S b), az_r 30]) (s2 := t18) rfl ?_
        refine az_cl (m2 := am_m_X3_appendDigit) (as := [az_r 30, az_i (zat S b)]) (rest := []) 151 rfl rfl ⟨rfl, rfl⟩ (by omega) (zs_X3_appendDigit_30 (s := t18) (dg := (zat S b)) (by omega) hl18 (by simp) (by omega)) (fun v19 t19 q19 => ?_) (fun E t19 q19 => by cases q19.1)
        obtain ⟨o19, hl19, hf19⟩ := q19
        cases o19
        refine az_to 0 (pc2 := 151) (lv2 := [some (az_r 0), some (az_i (((b : Nat) : Int)))]) (st2 := []) (s2 := t19) rfl ?_
        have hR19 : zRel (t19 3) S := by rw [hf19.1 3 (by decide) (by decide)]; exact hR18
        have hF19 := zFl_t hF18 hf19
        refine az_to 3 (pc2 := 156) (lv2 := [some (az_r 0), some (az_i (((b : Nat) : Int)))]) (st2 := [az_i (((b : Nat) : Int)), az_r 1]) (s2 := t19) rfl ?_
        refine az_clv (v := some (az_i (az_b (S 3 < zB S b 4)))) (t := t19) (m2 := am_m_X8_isInFog) (as := [az_r 1, az_i (((b : Nat) : Int))]) (rest := []) 159 rfl rfl ⟨rfl, rfl⟩ (by omega) (zs_X8_isInFog (s := t19) (b := b) (by omega) hR19 hI hh (by omega)) ?_
        refine az_to 0 (pc2 := 159) (lv2 := [some (az_r 0), some (az_i (((b : Nat) : Int)))]) (st2 := [az_i (az_b (S 3 < zB S b 4))]) (s2 := t19) rfl ?_
        refine az_ifbe 172 162 rfl (by decide) (fun h20 => ?_) (fun h20 => ?_)
        · have h20 : ¬ (S 3 < zB S b 4) := h20
          refine az_to 3 (pc2 := 177) (lv2 := [some (az_r 0), some (az_i (((b : Nat) : Int)))]) (st2 := [az_i (((b : Nat) : Int)), az_r 1]) (s2 := t19) rfl ?_
          refine az_clv (v := some (az_i (az_b (0 ≤ zB S b 5)))) (t := t19) (m2 := am_m_X8_isDisputed) (as := [az_r 1, az_i (((b : Nat) : Int))]) (rest := []) 180 rfl rfl ⟨rfl, rfl⟩ (by omega) (zs_X8_isDisputed (s := t19) (b := b) (by omega) hR19 hI hh (by omega)) ?_
          refine az_to 0 (pc2 := 180) (lv2 := [some (az_r 0), some (az_i (((b : Nat) : Int)))]) (st2 := [az_i (az_b (0 ≤ zB S b 5))]) (s2 := t19) rfl ?_
          refine az_ifbe 193 183 rfl (by decide) (fun h21 => ?_) (fun h21 => ?_)
          · have h21 : ¬ (0 ≤ zB S b 5) := h21
            refine az_to 2 (pc2 := 197) (lv2 := [some (az_r 0), some (az_i (((b : Nat) : Int)))]) (st2 := [az_r 30]) (s2 := t19) rfl ?_
            refine az_clv (v := some (az_i (((((((((((((([] : List Int) ++ [48 + (((b : Nat) : Int))]) ++ [58]) ++ [48 + (zB S b 0)]) ++ [48 + (zB S b 1)]) ++ [42]) ++ [48 + (zB S b 2)]) ++ [36]) ++ [48 + (zB S b 3)]) ++ [116]) ++ [48 + (zat S b)]).length : Nat) : Int)))) (t := t19) (m2 := am_m_X3_length) (as := [az_r 30]) (rest := []) 200 rfl rfl ⟨rfl, rfl⟩ (by omega) (zs_X3_length_30l (s := t19) (l := ((((((((((([] : List Int) ++ [48 + (((b : Nat) : Int))]) ++ [58]) ++ [48 + (zB S b 0)]) ++ [48 + (zB S b 1)]) ++ [42]) ++ [48 + (zB S b 2)]) ++ [36]) ++ [48 + (zB S b 3)]) ++ [116]) ++ [48 + (zat S b)])) (by omega) hl19) ?_
            refine az_to 0 (pc2 := 200) (lv2 := [some (az_r 0), some (az_i (((b : Nat) : Int)))]) (st2 := [az_i (((((((((((((([] : List Int) ++ [48 + (((b : Nat) : Int))]) ++ [58]) ++ [48 + (zB S b 0)]) ++ [48 + (zB S b 1)]) ++ [42]) ++ [48 + (zB S b 2)]) ++ [36]) ++ [48 + (zB S b 3)]) ++ [116]) ++ [48 + (zat S b)]).length : Nat) : Int))]) (s2 := t19) rfl ?_
            refine az_retI rfl rfl ?_
            have e : zq_tell S ((b : Nat) : Int) = (0, ((zline S b).length : Int)) := by unfold zq_tell; rw [if_neg (by omega)]; rfl
            have e2 := hl19
            rw [show (((((((((((([] : List Int) ++ [48 + (((b : Nat) : Int))]) ++ [58]) ++ [48 + (zB S b 0)]) ++ [48 + (zB S b 1)]) ++ [42]) ++ [48 + (zB S b 2)]) ++ [36]) ++ [48 + (zB S b 3)]) ++ [116]) ++ [48 + (zat S b)])) = zline S b from by simp [zline, *]] at e2
            rw [e]
            exact ⟨by rw [← e2.2.1, ← hl19.2.1]; rfl, fun _ => ⟨e2, hF19⟩, fun h => absurd rfl h⟩
          · have h21 : 0 ≤ zB S b 5 := h21
            refine az_to 3 (pc2 := 189) (lv2 := [some (az_r 0), some (az_i (((b : Nat) : Int)))]) (st2 := [az_i (63), az_r 30]) (s2 := t19) rfl ?_
            refine az_cl (m2 := am_m_X3_append) (as := [az_r 30, az_i (63)]) (rest := []) 192 rfl rfl ⟨rfl, rfl⟩ (by omega) (zs_X3_append_30 (s := t19) (ch := 63) (by omega) hl19 (by simp)) (fun v22 t22 q22 => ?_) (fun E t22 q22 => by cases q22.1)
            obtain ⟨o22, hl22, hf22⟩ := q22
            cases o22
            refine az_to 0 (pc2 := 192) (lv2 := [some (az_r 0), some (az_i (((b : Nat) : Int)))]) (st2 := [az_i (1)]) (s2 := t22) rfl ?_
            have hR22 : zRel (t22 3) S := by rw [hf22.1 3 (by decide) (by decide)]; exact hR19
            have hF22 := zFl_t hF19 hf22
            refine az_to 3 (pc2 := 197) (lv2 := [some (az_r 0), some (az_i (((b : Nat) : Int)))]) (st2 := [az_r 30]) (s2 := t22) rfl ?_
            refine az_clv (v := some (az_i ((((((((((((((([] : List Int) ++ [48 + (((b : Nat) : Int))]) ++ [58]) ++ [48 + (zB S b 0)]) ++ [48 + (zB S b 1)]) ++ [42]) ++ [48 + (zB S b 2)]) ++ [36]) ++ [48 + (zB S b 3)]) ++ [116]) ++ [48 + (zat S b)]) ++ [63]).length : Nat) : Int)))) (t := t22) (m2 := am_m_X3_length) (as := [az_r 30]) (rest := []) 200 rfl rfl ⟨rfl, rfl⟩ (by omega) (zs_X3_length_30l (s := t22) (l := (((((((((((([] : List Int) ++ [48 + (((b : Nat) : Int))]) ++ [58]) ++ [48 + (zB S b 0)]) ++ [48 + (zB S b 1)]) ++ [42]) ++ [48 + (zB S b 2)]) ++ [36]) ++ [48 + (zB S b 3)]) ++ [116]) ++ [48 + (zat S b)]) ++ [63])) (by omega) hl22) ?_
            refine az_to 0 (pc2 := 200) (lv2 := [some (az_r 0), some (az_i (((b : Nat) : Int)))]) (st2 := [az_i ((((((((((((((([] : List Int) ++ [48 + (((b : Nat) : Int))]) ++ [58]) ++ [48 + (zB S b 0)]) ++ [48 + (zB S b 1)]) ++ [42]) ++ [48 + (zB S b 2)]) ++ [36]) ++ [48 + (zB S b 3)]) ++ [116]) ++ [48 + (zat S b)]) ++ [63]).length : Nat) : Int))]) (s2 := t22) rfl ?_
            refine az_retI rfl rfl ?_
            have e : zq_tell S ((b : Nat) : Int) = (0, ((zline S b).length : Int)) := by unfold zq_tell; rw [if_neg (by omega)]; rfl
            have e2 := hl22
            rw [show ((((((((((((([] : List Int) ++ [48 + (((b : Nat) : Int))]) ++ [58]) ++ [48 + (zB S b 0)]) ++ [48 + (zB S b 1)]) ++ [42]) ++ [48 + (zB S b 2)]) ++ [36]) ++ [48 + (zB S b 3)]) ++ [116]) ++ [48 + (zat S b)]) ++ [63])) = zline S b from by simp [zline, *]] at e2
            rw [e]
            exact ⟨by rw [← e2.2.1, ← hl22.2.1]; rfl, fun _ => ⟨e2, hF22⟩, fun h => absurd rfl h⟩
        · have h20 : S 3 < zB S b 4 := h20
          refine az_to 3 (pc2 := 168) (lv2 := [some (az_r 0), some (az_i (((b : Nat) : Int)))]) (st2 := [az_i (126), az_r 30]) (s2 := t19) rfl ?_
          refine az_cl (m2 := am_m_X3_append) (as := [az_r 30, az_i (126)]) (rest := []) 171 rfl rfl ⟨rfl, rfl⟩ (by omega) (zs_X3_append_30 (s := t19) (ch := 126) (by omega) hl19 (by simp)) (fun v23 t23 q23 => ?_) (fun E t23 q23 => by cases q23.1)
          obtain ⟨o23, hl23, hf23⟩ := q23
          cases o23
          refine az_to 0 (pc2 := 171) (lv2 := [some (az_r 0), some (az_i (((b : Nat) : Int)))]) (st2 := [az_i (1)]) (s2 := t23) rfl ?_
          have hR23 : zRel (t23 3) S := by rw [hf23.1 3 (by decide) (by decide)]; exact hR19
          have hF23 := zFl_t hF19 hf23
          refine az_to 4 (pc2 := 177) (lv2 := [some (az_r 0), some (az_i (((b : Nat) : Int)))]) (st2 := [az_i (((b : Nat) : Int)), az_r 1]) (s2 := t23) rfl ?_
          refine az_clv (v := some (az_i (az_b (0 ≤ zB S b 5)))) (t := t23) (m2 := am_m_X8_isDisputed) (as := [az_r 1, az_i (((b : Nat) : Int))]) (rest := []) 180 rfl rfl ⟨rfl, rfl⟩ (by omega) (zs_X8_isDisputed (s := t23) (b := b) (by omega) hR23 hI hh (by omega)) ?_
          refine az_to 0 (pc2 := 180) (lv2 := [some (az_r 0), some (az_i (((b : Nat) : Int)))]) (st2 := [az_i (az_b (0 ≤ zB S b 5))]) (s2 := t23) rfl ?_
          refine az_ifbe 193 183 rfl (by decide) (fun h24 => ?_) (fun h24 => ?_)
          · have h24 : ¬ (0 ≤ zB S b 5) := h24
            refine az_to 2 (pc2 := 197) (lv2 := [some (az_r 0), some (az_i (((b : Nat) : Int)))]) (st2 := [az_r 30]) (s2 := t23) rfl ?_
            refine az_clv (v := some (az_i ((((((((((((((([] : List Int) ++ [48 + (((b : Nat) : Int))]) ++ [58]) ++ [48 + (zB S b 0)]) ++ [48 + (zB S b 1)]) ++ [42]) ++ [48 + (zB S b 2)]) ++ [36]) ++ [48 + (zB S b 3)]) ++ [116]) ++ [48 + (zat S b)]) ++ [126]).length : Nat) : Int)))) (t := t23) (m2 := am_m_X3_length) (as := [az_r 30]) (rest := []) 200 rfl rfl ⟨rfl, rfl⟩ (by omega) (zs_X3_length_30l (s := t23) (l := (((((((((((([] : List Int) ++ [48 + (((b : Nat) : Int))]) ++ [58]) ++ [48 + (zB S b 0)]) ++ [48 + (zB S b 1)]) ++ [42]) ++ [48 + (zB S b 2)]) ++ [36]) ++ [48 + (zB S b 3)]) ++ [116]) ++ [48 + (zat S b)]) ++ [126])) (by omega) hl23) ?_
            refine az_to 0 (pc2 := 200) (lv2 := [some (az_r 0), some (az_i (((b : Nat) : Int)))]) (st2 := [az_i ((((((((((((((([] : List Int) ++ [48 + (((b : Nat) : Int))]) ++ [58]) ++ [48 + (zB S b 0)]) ++ [48 + (zB S b 1)]) ++ [42]) ++ [48 + (zB S b 2)]) ++ [36]) ++ [48 + (zB S b 3)]) ++ [116]) ++ [48 + (zat S b)]) ++ [126]).length : Nat) : Int))]) (s2 := t23) rfl ?_
            refine az_retI rfl rfl ?_
            have e : zq_tell S ((b : Nat) : Int) = (0, ((zline S b).length : Int)) := by unfold zq_tell; rw [if_neg (by omega)]; rfl
            have e2 := hl23
            rw [show ((((((((((((([] : List Int) ++ [48 + (((b : Nat) : Int))]) ++ [58]) ++ [48 + (zB S b 0)]) ++ [48 + (zB S b 1)]) ++ [42]) ++ [48 + (zB S b 2)]) ++ [36]) ++ [48 + (zB S b 3)]) ++ [116]) ++ [48 + (zat S b)]) ++ [126])) = zline S b from by simp [zline, *]] at e2
            rw [e]
            exact ⟨by rw [← e2.2.1, ← hl23.2.1]; rfl, fun _ => ⟨e2, hF23⟩, fun h => absurd rfl h⟩
          · have h24 : 0 ≤ zB S b 5 := h24
            refine az_to 3 (pc2 := 189) (lv2 := [some (az_r 0), some (az_i (((b : Nat) : Int)))]) (st2 := [az_i (63), az_r 30]) (s2 := t23) rfl ?_
            refine az_cl (m2 := am_m_X3_append) (as := [az_r 30, az_i (63)]) (rest := []) 192 rfl rfl ⟨rfl, rfl⟩ (by omega) (zs_X3_append_30 (s := t23) (ch := 63) (by omega) hl23 (by simp)) (fun v25 t25 q25 => ?_) (fun E t25 q25 => by cases q25.1)
            obtain ⟨o25, hl25, hf25⟩ := q25
            cases o25
            refine az_to 0 (pc2 := 192) (lv2 := [some (az_r 0), some (az_i (((b : Nat) : Int)))]) (st2 := [az_i (1)]) (s2 := t25) rfl ?_
            have hR25 : zRel (t25 3) S := by rw [hf25.1 3 (by decide) (by decide)]; exact hR23
            have hF25 := zFl_t hF23 hf25
            refine az_to 3 (pc2 := 197) (lv2 := [some (az_r 0), some (az_i (((b : Nat) : Int)))]) (st2 := [az_r 30]) (s2 := t25) rfl ?_
            refine az_clv (v := some (az_i (((((((((((((((([] : List Int) ++ [48 + (((b : Nat) : Int))]) ++ [58]) ++ [48 + (zB S b 0)]) ++ [48 + (zB S b 1)]) ++ [42]) ++ [48 + (zB S b 2)]) ++ [36]) ++ [48 + (zB S b 3)]) ++ [116]) ++ [48 + (zat S b)]) ++ [126]) ++ [63]).length : Nat) : Int)))) (t := t25) (m2 := am_m_X3_length) (as := [az_r 30]) (rest := []) 200 rfl rfl ⟨rfl, rfl⟩ (by omega) (zs_X3_length_30l (s := t25) (l := ((((((((((((([] : List Int) ++ [48 + (((b : Nat) : Int))]) ++ [58]) ++ [48 + (zB S b 0)]) ++ [48 + (zB S b 1)]) ++ [42]) ++ [48 + (zB S b 2)]) ++ [36]) ++ [48 + (zB S b 3)]) ++ [116]) ++ [48 + (zat S b)]) ++ [126]) ++ [63])) (by omega) hl25) ?_
            refine az_to 0 (pc2 := 200) (lv2 := [some (az_r 0), some (az_i (((b : Nat) : Int)))]) (st2 := [az_i (((((((((((((((([] : List Int) ++ [48 + (((b : Nat) : Int))]) ++ [58]) ++ [48 + (zB S b 0)]) ++ [48 + (zB S b 1)]) ++ [42]) ++ [48 + (zB S b 2)]) ++ [36]) ++ [48 + (zB S b 3)]) ++ [116]) ++ [48 + (zat S b)]) ++ [126]) ++ [63]).length : Nat) : Int))]) (s2 := t25) rfl ?_
            refine az_retI rfl rfl ?_
            have e : zq_tell S ((b : Nat) : Int) = (0, ((zline S b).length : Int)) := by unfold zq_tell; rw [if_neg (by omega)]; rfl
            have e2 := hl25
            rw [show (((((((((((((([] : List Int) ++ [48 + (((b : Nat) : Int))]) ++ [58]) ++ [48 + (zB S b 0)]) ++ [48 + (zB S b 1)]) ++ [42]) ++ [48 + (zB S b 2)]) ++ [36]) ++ [48 + (zB S b 3)]) ++ [116]) ++ [48 + (zat S b)]) ++ [126]) ++ [63])) = zline S b from by simp [zline, *]] at e2
            rw [e]
            exact ⟨by rw [← e2.2.1, ← hl25.2.1]; rfl, fun _ => ⟨e2, hF25⟩, fun h => absurd rfl h⟩
    · skip
      refine az_cl (m2 := am_m_X9_needBridge) (as := [az_r 0, az_i (((b : Nat) : Int))]) (rest := []) 5 rfl rfl ⟨rfl, rfl⟩ (by omega) (zs_X9_needBridge_n (s := s) (z := (((b : Nat) : Int))) (by omega) hR hI hh (by first | assumption | exact ⟨by omega, by omega⟩) (by first | assumption | omega)) (fun v t q9 => by cases q9.1) (fun E9 t q9 => ?_)
      obtain ⟨q8, q9⟩ := q9
      cases q8
      rw [q9]
      first | (exfalso; omega; done) | (have e : zq_tell S zb = (1, 0) := (by unfold zq_tell; rw [if_neg (by assumption)]); rw [e]; exact ⟨rfl, fun h => absurd (show (1 : Nat) = 0 from h) (by decide), fun _ => rfl⟩) | (have e : zq_tell S zb = (1, 0) := (by unfold zq_tell; rw [if_pos (by assumption)]); rw [e]; exact ⟨rfl, fun h => absurd (show (1 : Nat) = 0 from h) (by decide), fun _ => rfl⟩)
  · skip
    refine az_cl (m2 := am_m_X9_needBridge) (as := [az_r 0, az_i (zb)]) (rest := []) 5 rfl rfl ⟨rfl, rfl⟩ (by omega) (zs_X9_needBridge_n (s := s) (z := zb) (by omega) hR hI hh (by first | assumption | exact ⟨by omega, by omega⟩) (by first | assumption | omega)) (fun v t q9 => by cases q9.1) (fun E9 t q9 => ?_)
    obtain ⟨q8, q9⟩ := q9
    cases q8
    rw [q9]
    first | (exfalso; omega; done) | (have e : zq_tell S zb = (1, 0) := (by unfold zq_tell; rw [if_neg (by assumption)]); rw [e]; exact ⟨rfl, fun h => absurd (show (1 : Nat) = 0 from h) (by decide), fun _ => rfl⟩) | (have e : zq_tell S zb = (1, 0) := (by unfold zq_tell; rw [if_pos (by assumption)]); rw [e]; exact ⟨rfl, fun h => absurd (show (1 : Nat) = 0 from h) (by decide), fun _ => rfl⟩)

