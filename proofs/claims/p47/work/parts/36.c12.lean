/-! CLASS, 12: showing all that hangs; written by program (wip/tools/zg/s12.py) -/
theorem zFl_r (s : az_S) : zFl s s := ⟨fun _ _ _ => rfl, rfl, rfl⟩
set_option maxRecDepth 100000 in
set_option maxHeartbeats 800000 in
theorem zs_X9_writeHanging_st_L18 {d : Nat} {s : az_S} (hd : 0 ≤ d) {S : zR} {f n e : Nat} (hd1 : 4 + n ≤ d) (IH : ∀ {d : Nat} {s : az_S} {l : List Int} {c e : Nat}, 3 + n ≤ d → e + n = 6 → (∀ v, v < 6 → s 16 v = zhg S f v) → zLn s l → l.length + (zgt (zhg S f) n c).length ≤ 16 → c < 6 → zgH (zhg S f) n c → az_R d am_m_X9_writeHanging 0 (az_ini (am_mL am_m_X9_writeHanging) [az_r 30, az_r 6, az_i ((c : Nat) : Int), az_i ((e : Nat) : Int)]) [] s (fun o t => o = .inl none ∧ zLn t (l ++ zgt (zhg S f) n c) ∧ zFl s t)) (he : e + (n + 1) = 6) (hrow : ∀ v, v < 6 → s 16 v = zhg S f v) {l : List Int} (hl : zLn s l) {v : Nat} (h16 : l.length + (zgt (zhg S f) (n + 1) v).length ≤ 16) (hv : v < 6) (hH : zgH (zhg S f) (n + 1) v) : ∀ (mq : Nat) (k : Nat) (u : az_S), mq = 6 - k → (k ≤ 6) → (zLn u (l ++ (48 + ((v : Nat) : Int)) :: zgx (zhg S f) (zgt (zhg S f) n) v k)) → (zFl s u) → az_R d am_m_X9_writeHanging 18 [some (az_r 30), some (az_r 6), some (az_i (((v : Nat) : Int))), some (az_i (((e : Nat) : Int))), some (az_i (az_b (¬ zga (zhg S f) v k = true))), some (az_i (((k : Nat) : Int)))] [] (u) (fun o t => o = .inl none ∧ zLn t (l ++ zgt (zhg S f) (n + 1) v) ∧ zFl s t) := by
  intro mq
  induction mq using Nat.strongRecOn with
  | _ mq ih =>
    intro k u hm g0 g1 g2
    refine az_to 2 (pc2 := 22) (lv2 := [some (az_r 30), some (az_r 6), some (az_i (((v : Nat) : Int))), some (az_i (((e : Nat) : Int))), some (az_i (az_b (¬ zga (zhg S f) v k = true))), some (az_i (((k : Nat) : Int)))]) (st2 := [az_i (6), az_i (((k : Nat) : Int))]) (s2 := u) rfl ?_
    refine az_if2 71 25 rfl (by decide) (by first | assumption | exact ⟨by omega, by omega⟩) ⟨by decide, by decide⟩ (fun h1 => ?_) (fun h1 => ?_)
    · have h1 : 6 ≤ ((k : Nat) : Int) := h1
      refine az_to 1 (pc2 := 73) (lv2 := [some (az_r 30), some (az_r 6), some (az_i (((v : Nat) : Int))), some (az_i (((e : Nat) : Int))), some (az_i (az_b (¬ zga (zhg S f) v k = true))), some (az_i (((k : Nat) : Int)))]) (st2 := [az_i (az_b (¬ zga (zhg S f) v k = true))]) (s2 := u) rfl ?_
      refine az_ifbn 83 76 rfl (by decide) (fun h2 => ?_) (fun h2 => ?_)
      · have h2 : ¬ zga (zhg S f) v k = true := h2
        refine az_ret0 rfl rfl ?_
        obtain rfl : k = 6 := by omega
        refine ⟨rfl, ?_, g2⟩
        rw [show zgt (zhg S f) (n + 1) v = (48 + ((v : Nat) : Int)) :: (zgx (zhg S f) (zgt (zhg S f) n) v 6 ++ []) from (by show _ :: (_ ++ _) = _; rw [if_neg (by assumption)]), List.append_nil]
        exact g1
      · have h2 : ¬ (¬ zga (zhg S f) v k = true) := h2
        have hy : zga (zhg S f) v k = true := Decidable.not_not.mp h2
        obtain hk6 : k = 6 := by omega
        have hx3 : (zgt (zhg S f) (n + 1) v).length = (zgx (zhg S f) (zgt (zhg S f) n) v k).length + 1 + 1 := by
          show ((48 + ((v : Nat) : Int)) :: (_ ++ _)).length = _
          rw [hk6] at hy ⊢
          rw [List.length_cons, List.length_append, if_pos hy]
          rfl
        refine az_to 2 (pc2 := 79) (lv2 := [some (az_r 30), some (az_r 6), some (az_i (((v : Nat) : Int))), some (az_i (((e : Nat) : Int))), some (az_i (az_b (¬ zga (zhg S f) v k = true))), some (az_i (((k : Nat) : Int)))]) (st2 := [az_i (41), az_r 30]) (s2 := u) rfl ?_
        refine az_cl (m2 := am_m_X3_append) (as := [az_r 30, az_i (41)]) (rest := []) 82 rfl rfl ⟨rfl, rfl⟩ (by omega) (zs_X3_append_30 (s := u) (ch := 41) (by omega) g1 (by simp only [List.length_append, List.length_cons, List.length_nil]; omega)) (fun v3 t3 q3 => ?_) (fun E t3 q3 => by cases q3.1)
        obtain ⟨o3, hl3, hf3⟩ := q3
        cases o3
        refine az_to 0 (pc2 := 82) (lv2 := [some (az_r 30), some (az_r 6), some (az_i (((v : Nat) : Int))), some (az_i (((e : Nat) : Int))), some (az_i (az_b (¬ zga (zhg S f) v k = true))), some (az_i (((k : Nat) : Int)))]) (st2 := [az_i (1)]) (s2 := t3) rfl ?_
        have hF3 := zFl_t g2 hf3
        refine az_to 1 (pc2 := 83) (lv2 := [some (az_r 30), some (az_r 6), some (az_i (((v : Nat) : Int))), some (az_i (((e : Nat) : Int))), some (az_i (az_b (¬ zga (zhg S f) v k = true))), some (az_i (((k : Nat) : Int)))]) (st2 := []) (s2 := t3) rfl ?_
        refine az_ret0 rfl rfl ?_
        subst hk6
        refine ⟨rfl, ?_, hF3⟩
        have q := hl3
        rw [show zgt (zhg S f) (n + 1) v = (48 + ((v : Nat) : Int)) :: (zgx (zhg S f) (zgt (zhg S f) n) v 6 ++ [41]) from (by show _ :: (_ ++ _) = _; rw [if_pos hy])]
        simpa using q
    · have h1 : ¬ (6 ≤ ((k : Nat) : Int)) := h1
      refine az_to 2 (pc2 := 28) (lv2 := [some (az_r 30), some (az_r 6), some (az_i (((v : Nat) : Int))), some (az_i (((e : Nat) : Int))), some (az_i (az_b (¬ zga (zhg S f) v k = true))), some (az_i (((k : Nat) : Int)))]) (st2 := [az_i (((k : Nat) : Int)), az_r 6]) (s2 := u) rfl ?_
      refine az_clv (v := some (az_i (u 16 k))) (t := u) (m2 := am_m_X7_hangerKept) (as := [az_r 6, az_i (((k : Nat) : Int))]) (rest := []) 31 rfl rfl ⟨rfl, rfl⟩ (by omega) (zs_X7_hangerKept (s := u) (v := k) (by omega) (by omega)) ?_
      refine az_to 0 (pc2 := 31) (lv2 := [some (az_r 30), some (az_r 6), some (az_i (((v : Nat) : Int))), some (az_i (((e : Nat) : Int))), some (az_i (az_b (¬ zga (zhg S f) v k = true))), some (az_i (((k : Nat) : Int)))]) (st2 := [az_i (u 16 k)]) (s2 := u) rfl ?_
      have hgr : -1 ≤ zhg S f k ∧ zhg S f k < 6 := zf_lt _ 6
      refine az_to 0 (pc2 := 31) (lv2 := [some (az_r 30), some (az_r 6), some (az_i (((v : Nat) : Int))), some (az_i (((e : Nat) : Int))), some (az_i (az_b (¬ zga (zhg S f) v k = true))), some (az_i (((k : Nat) : Int)))]) (st2 := [az_i (zhg S f k)]) (s2 := u) (by rw [show u 16 k = zhg S f k from (by rw [g2.1 16 (by decide) (by decide)]; exact hrow k (by omega))]; rfl) ?_
      refine az_to 1 (pc2 := 32) (lv2 := [some (az_r 30), some (az_r 6), some (az_i (((v : Nat) : Int))), some (az_i (((e : Nat) : Int))), some (az_i (az_b (¬ zga (zhg S f) v k = true))), some (az_i (((k : Nat) : Int)))]) (st2 := [az_i (((v : Nat) : Int)), az_i (zhg S f k)]) (s2 := u) rfl ?_
      refine az_if2 65 35 rfl (by decide) (by first | assumption | exact ⟨by omega, by omega⟩) (by first | assumption | exact ⟨by omega, by omega⟩) (fun h4 => ?_) (fun h4 => ?_)
      · have h4 : ¬ zhg S f k = ((v : Nat) : Int) := h4
        refine az_to 2 (pc2 := 18) (lv2 := [some (az_r 30), some (az_r 6), some (az_i (((v : Nat) : Int))), some (az_i (((e : Nat) : Int))), some (az_i (az_b (¬ zga (zhg S f) v k = true))), some (az_i ((((k : Nat) : Int) + 1)))]) (st2 := []) (s2 := u) rfl ?_
        refine az_to 0 (pc2 := 18) (lv2 := [some (az_r 30), some (az_r 6), some (az_i (((v : Nat) : Int))), some (az_i (((e : Nat) : Int))), some (az_i (az_b (¬ zga (zhg S f) v (k + 1) = true))), some (az_i ((((k : Nat) : Int) + 1)))]) (st2 := []) (s2 := u) (by rw [show az_b (¬ zga (zhg S f) v (k + 1) = true) = az_b (¬ zga (zhg S f) v k = true) from (by simp only [zga_n (by assumption)])]; rfl) ?_
        exact ih _ (by omega) (k + 1) u rfl (by omega) (by rw [zgx_n (by assumption)]; exact g1) g2
      · have h4 : zhg S f k = ((v : Nat) : Int) := Decidable.not_not.mp h4
        have hx1 := zgx_y (g := zgt (zhg S f) n) h4
        have hx2 := zgx_le (P := zhg S f) (g := zgt (zhg S f) n) (v := v) (j := k + 1) 6 (by omega)
        rw [hx1, List.length_append, List.length_cons] at hx2
        have hx3 : (zgt (zhg S f) (n + 1) v).length = (zgx (zhg S f) (zgt (zhg S f) n) v 6).length + (if zga (zhg S f) v 6 = true then [41] else [] : List Int).length + 1 := by
          show ((48 + ((v : Nat) : Int)) :: (_ ++ _)).length = _
          rw [List.length_cons, List.length_append]
        refine az_to 2 (pc2 := 38) (lv2 := [some (az_r 30), some (az_r 6), some (az_i (((v : Nat) : Int))), some (az_i (((e : Nat) : Int))), some (az_i (az_b (¬ zga (zhg S f) v k = true))), some (az_i (((k : Nat) : Int)))]) (st2 := [az_i (az_b (¬ zga (zhg S f) v k = true)), az_r 30]) (s2 := u) rfl ?_
        refine az_ifbe 46 41 rfl (by decide) (fun h5 => ?_) (fun h5 => ?_)
        · have h5 : ¬ (¬ zga (zhg S f) v k = true) := h5
          refine az_to 1 (pc2 := 48) (lv2 := [some (az_r 30), some (az_r 6), some (az_i (((v : Nat) : Int))), some (az_i (((e : Nat) : Int))), some (az_i (az_b (¬ zga (zhg S f) v k = true))), some (az_i (((k : Nat) : Int)))]) (st2 := [az_i (32), az_r 30]) (s2 := u) rfl ?_
          refine az_cl (m2 := am_m_X3_append) (as := [az_r 30, az_i (32)]) (rest := []) 51 rfl rfl ⟨rfl, rfl⟩ (by omega) (zs_X3_append_30 (s := u) (ch := 32) (by omega) g1 (by simp only [List.length_append, List.length_cons, List.length_nil]; omega)) (fun v6 t6 q6 => ?_) (fun E t6 q6 => by cases q6.1)
          obtain ⟨o6, hl6, hf6⟩ := q6
          cases o6
          refine az_to 0 (pc2 := 51) (lv2 := [some (az_r 30), some (az_r 6), some (az_i (((v : Nat) : Int))), some (az_i (((e : Nat) : Int))), some (az_i (az_b (¬ zga (zhg S f) v k = true))), some (az_i (((k : Nat) : Int)))]) (st2 := [az_i (1)]) (s2 := t6) rfl ?_
          have hF6 := zFl_t g2 hf6
          refine az_to 9 (pc2 := 62) (lv2 := [some (az_r 30), some (az_r 6), some (az_i (((v : Nat) : Int))), some (az_i (((e : Nat) : Int))), some (az_i (0)), some (az_i (((k : Nat) : Int)))]) (st2 := [az_i ((((e : Nat) : Int) + 1)), az_i (((k : Nat) : Int)), az_r 6, az_r 30]) (s2 := t6) rfl ?_
          refine az_cl (m2 := am_m_X9_writeHanging) (as := [az_r 30, az_r 6, az_i (((k : Nat) : Int)), az_i ((((e : Nat) : Int) + 1))]) (rest := []) 65 rfl rfl ⟨rfl, rfl⟩ (by omega) (IH (s := t6) (c := k) (e := (e + 1)) (by omega) (by omega) (fun v0 hv0 => by rw [hF6.1 16 (by decide) (by decide)]; exact hrow v0 hv0) hl6 (by simp only [List.length_append, List.length_cons, List.length_nil]; omega) (by omega) (zgH_c hH (by assumption))) (fun v7 t7 q7 => ?_) (fun E t7 q7 => by cases q7.1)
          obtain ⟨o7, hl7, hf7⟩ := q7
          cases o7
          refine az_to 0 (pc2 := 65) (lv2 := [some (az_r 30), some (az_r 6), some (az_i (((v : Nat) : Int))), some (az_i (((e : Nat) : Int))), some (az_i (0)), some (az_i (((k : Nat) : Int)))]) (st2 := []) (s2 := t7) rfl ?_
          have hF7 := zFl_t hF6 hf7
          refine az_to 2 (pc2 := 18) (lv2 := [some (az_r 30), some (az_r 6), some (az_i (((v : Nat) : Int))), some (az_i (((e : Nat) : Int))), some (az_i (0)), some (az_i ((((k : Nat) : Int) + 1)))]) (st2 := []) (s2 := t7) rfl ?_
          refine az_to 0 (pc2 := 18) (lv2 := [some (az_r 30), some (az_r 6), some (az_i (((v : Nat) : Int))), some (az_i (((e : Nat) : Int))), some (az_i (az_b (¬ zga (zhg S f) v (k + 1) = true))), some (az_i ((((k : Nat) : Int) + 1)))]) (st2 := []) (s2 := t7) (by rw [show az_b (¬ zga (zhg S f) v (k + 1) = true) = 0 from az_b0 (by rw [zga_y (by assumption)]; simp)]; rfl) ?_
          exact ih _ (by omega) (k + 1) t7 rfl (by omega) (by rw [zgx_y (by assumption), if_pos (Decidable.not_not.mp (by assumption))]; have q := hl7; simpa using q) hF7
        · have h5 : ¬ zga (zhg S f) v k = true := h5
          refine az_to 2 (pc2 := 48) (lv2 := [some (az_r 30), some (az_r 6), some (az_i (((v : Nat) : Int))), some (az_i (((e : Nat) : Int))), some (az_i (az_b (¬ zga (zhg S f) v k = true))), some (az_i (((k : Nat) : Int)))]) (st2 := [az_i (40), az_r 30]) (s2 := u) rfl ?_
          refine az_cl (m2 := am_m_X3_append) (as := [az_r 30, az_i (40)]) (rest := []) 51 rfl rfl ⟨rfl, rfl⟩ (by omega) (zs_X3_append_30 (s := u) (ch := 40) (by omega) g1 (by simp only [List.length_append, List.length_cons, List.length_nil]; omega)) (fun v8 t8 q8 => ?_) (fun E t8 q8 => by cases q8.1)
          obtain ⟨o8, hl8, hf8⟩ := q8
          cases o8
          refine az_to 0 (pc2 := 51) (lv2 := [some (az_r 30), some (az_r 6), some (az_i (((v : Nat) : Int))), some (az_i (((e : Nat) : Int))), some (az_i (az_b (¬ zga (zhg S f) v k = true))), some (az_i (((k : Nat) : Int)))]) (st2 := [az_i (1)]) (s2 := t8) rfl ?_
          have hF8 := zFl_t g2 hf8
          refine az_to 9 (pc2 := 62) (lv2 := [some (az_r 30), some (az_r 6), some (az_i (((v : Nat) : Int))), some (az_i (((e : Nat) : Int))), some (az_i (0)), some (az_i (((k : Nat) : Int)))]) (st2 := [az_i ((((e : Nat) : Int) + 1)), az_i (((k : Nat) : Int)), az_r 6, az_r 30]) (s2 := t8) rfl ?_
          refine az_cl (m2 := am_m_X9_writeHanging) (as := [az_r 30, az_r 6, az_i (((k : Nat) : Int)), az_i ((((e : Nat) : Int) + 1))]) (rest := []) 65 rfl rfl ⟨rfl, rfl⟩ (by omega) (IH (s := t8) (c := k) (e := (e + 1)) (by omega) (by omega) (fun v0 hv0 => by rw [hF8.1 16 (by decide) (by decide)]; exact hrow v0 hv0) hl8 (by simp only [List.length_append, List.length_cons, List.length_nil]; omega) (by omega) (zgH_c hH (by assumption))) (fun v9 t9 q9 => ?_) (fun E t9 q9 => by cases q9.1)
          obtain ⟨o9, hl9, hf9⟩ := q9
          cases o9
          refine az_to 0 (pc2 := 65) (lv2 := [some (az_r 30), some (az_r 6), some (az_i (((v : Nat) : Int))), some (az_i (((e : Nat) : Int))), some (az_i (0)), some (az_i (((k : Nat) : Int)))]) (st2 := []) (s2 := t9) rfl ?_
          have hF9 := zFl_t hF8 hf9
          refine az_to 2 (pc2 := 18) (lv2 := [some (az_r 30), some (az_r 6), some (az_i (((v : Nat) : Int))), some (az_i (((e : Nat) : Int))), some (az_i (0)), some (az_i ((((k : Nat) : Int) + 1)))]) (st2 := []) (s2 := t9) rfl ?_
          refine az_to 0 (pc2 := 18) (lv2 := [some (az_r 30), some (az_r 6), some (az_i (((v : Nat) : Int))), some (az_i (((e : Nat) : Int))), some (az_i (az_b (¬ zga (zhg S f) v (k + 1) = true))), some (az_i ((((k : Nat) : Int) + 1)))]) (st2 := []) (s2 := t9) (by rw [show az_b (¬ zga (zhg S f) v (k + 1) = true) = 0 from az_b0 (by rw [zga_y (by assumption)]; simp)]; rfl) ?_
          exact ih _ (by omega) (k + 1) t9 rfl (by omega) (by rw [zgx_y (by assumption), if_neg (by assumption)]; have q := hl9; simpa using q) hF9
set_option maxRecDepth 100000 in
set_option maxHeartbeats 800000 in
theorem zs_X9_writeHanging_st {d : Nat} {s : az_S} (hd : 0 ≤ d) {S : zR} {f n e : Nat} (hd1 : 4 + n ≤ d) (IH : ∀ {d : Nat} {s : az_S} {l : List Int} {c e : Nat}, 3 + n ≤ d → e + n = 6 → (∀ v, v < 6 → s 16 v = zhg S f v) → zLn s l → l.length + (zgt (zhg S f) n c).length ≤ 16 → c < 6 → zgH (zhg S f) n c → az_R d am_m_X9_writeHanging 0 (az_ini (am_mL am_m_X9_writeHanging) [az_r 30, az_r 6, az_i ((c : Nat) : Int), az_i ((e : Nat) : Int)]) [] s (fun o t => o = .inl none ∧ zLn t (l ++ zgt (zhg S f) n c) ∧ zFl s t)) (he : e + (n + 1) = 6) (hrow : ∀ v, v < 6 → s 16 v = zhg S f v) {l : List Int} (hl : zLn s l) {v : Nat} (h16 : l.length + (zgt (zhg S f) (n + 1) v).length ≤ 16) (hv : v < 6) (hH : zgH (zhg S f) (n + 1) v) : az_R d am_m_X9_writeHanging 0 (az_ini (am_mL am_m_X9_writeHanging) [az_r 30, az_r 6, az_i (((v : Nat) : Int)), az_i (((e : Nat) : Int))]) [] (s) (fun o t => o = .inl none ∧ zLn t (l ++ zgt (zhg S f) (n + 1) v) ∧ zFl s t) := by
  refine az_to 0 (pc2 := 0) (lv2 := [some (az_r 30), some (az_r 6), some (az_i (((v : Nat) : Int))), some (az_i (((e : Nat) : Int))), none, none]) (st2 := []) (s2 := s) rfl ?_
  refine az_to 2 (pc2 := 2) (lv2 := [some (az_r 30), some (az_r 6), some (az_i (((v : Nat) : Int))), some (az_i (((e : Nat) : Int))), none, none]) (st2 := [az_i (((v : Nat) : Int)), az_r 30]) (s2 := s) rfl ?_
  refine az_cl (m2 := am_m_X3_appendDigit) (as := [az_r 30, az_i (((v : Nat) : Int))]) (rest := []) 5 rfl rfl ⟨rfl, rfl⟩ (by omega) (zs_X3_appendDigit_30 (s := s) (dg := (((v : Nat) : Int))) (by omega) hl (by have := h16; simp only [zgt, List.length_cons] at this; omega) (by omega)) (fun v10 t10 q10 => ?_) (fun E t10 q10 => by cases q10.1)
  obtain ⟨o10, hl10, hf10⟩ := q10
  cases o10
  refine az_to 0 (pc2 := 5) (lv2 := [some (az_r 30), some (az_r 6), some (az_i (((v : Nat) : Int))), some (az_i (((e : Nat) : Int))), none, none]) (st2 := []) (s2 := t10) rfl ?_
  have hF0 := zFl_r s
  have hF10 := zFl_t hF0 hf10
  refine az_to 2 (pc2 := 8) (lv2 := [some (az_r 30), some (az_r 6), some (az_i (((v : Nat) : Int))), some (az_i (((e : Nat) : Int))), none, none]) (st2 := [az_i (6), az_i (((e : Nat) : Int))]) (s2 := t10) rfl ?_
  refine az_if2 12 11 rfl (by decide) (by first | assumption | exact ⟨by omega, by omega⟩) ⟨by decide, by decide⟩ (fun h11 => ?_) (fun h11 => ?_)
  · have h11 : ((e : Nat) : Int) < 6 := h11
    refine az_to 4 (pc2 := 18) (lv2 := [some (az_r 30), some (az_r 6), some (az_i (((v : Nat) : Int))), some (az_i (((e : Nat) : Int))), some (az_i (1)), some (az_i (0))]) (st2 := []) (s2 := t10) rfl ?_
    refine az_to 0 (pc2 := 18) (lv2 := [some (az_r 30), some (az_r 6), some (az_i (((v : Nat) : Int))), some (az_i (((e : Nat) : Int))), some (az_i (az_b (¬ zga (zhg S f) v 0 = true))), some (az_i (0))]) (st2 := []) (s2 := t10) (by rw [show az_b (¬ zga (zhg S f) v 0 = true) = 1 from az_b1 (by intro q; cases q)]; rfl) ?_
    exact zs_X9_writeHanging_st_L18 (by omega) hd1 IH he hrow hl h16 hv hH _ 0 t10 rfl (by omega) hl10 hF10
  · have h11 : ¬ (((e : Nat) : Int) < 6) := h11
    exact absurd h11 (by omega)
theorem zwh_all {S : zR} {f : Nat} : ∀ (n : Nat) {d : Nat} {s : az_S} {l : List Int} {c e : Nat}, 3 + n ≤ d → e + n = 6 → (∀ v, v < 6 → s 16 v = zhg S f v) → zLn s l → l.length + (zgt (zhg S f) n c).length ≤ 16 → c < 6 → zgH (zhg S f) n c → az_R d am_m_X9_writeHanging 0 (az_ini (am_mL am_m_X9_writeHanging) [az_r 30, az_r 6, az_i ((c : Nat) : Int), az_i ((e : Nat) : Int)]) [] s (fun o t => o = .inl none ∧ zLn t (l ++ zgt (zhg S f) n c) ∧ zFl s t)
  | 0, _, _, _, _, _, _, _, _, _, _, hc, hH => (zgH_0 hc hH).elim
  | n + 1, _, _, _, _, _, hd, he, hrow, hl, h16, hc, hH => zs_X9_writeHanging_st (Nat.zero_le _) (by omega) (fun {d s l c e} a1 a2 a3 a4 a5 a6 a7 => zwh_all n a1 a2 a3 a4 a5 a6 a7) he hrow hl h16 hc hH
/-- all that hangs, from a land on -/
noncomputable def zsh (S : zR) (f : Nat) : List Int := zgt (zhg S f) 6 f
noncomputable def zq_show (S : zR) (z : Int) : Nat × Int := if ¬ (0 ≤ z ∧ z ≤ 5) then (1, 0) else (0, ((zsh S z.toNat).length : Int))
theorem zsh_16 {S : zR} {h : Nat} (hI : zInv S h) (hh : h ≤ 10000) {f : Nat} (hf : f < 6) : (zsh S f).length ≤ 16 := zgt_16 (zhg_P hI hh (f := f)) hf (zgH_6 (zhg_P hI hh (f := f)) hf)
set_option maxRecDepth 100000 in
set_option maxHeartbeats 800000 in
theorem zs_X9_show {d : Nat} {s : az_S} (hd : 10 ≤ d) {S : zR} {h : Nat} (hR : zRel (s 3) S) (hI : zInv S h) (hh : h ≤ 10000) {zf0 : Int} (h_zf0 : az_in zf0) (h116 : s 30 1 = 16) : az_R d am_m_X9_show 0 (az_ini (am_mL am_m_X9_show) [az_r 0, az_i (zf0)]) [] (s) (fun o t => o = zoe [3] (zq_show S zf0) ∧ ((zq_show S zf0).1 = 0 → zLn t (zsh S zf0.toNat) ∧ t 30 0 = s 30 0 ∧ t 30 1 = s 30 1 ∧ ∀ i, i ≠ 8 → i ≠ 10 → i ≠ 14 → i ≠ 16 → i ≠ 30 → i ≠ 32 → t i = s i) ∧ ((zq_show S zf0).1 ≠ 0 → t = s)) := by
  have hz := zI_h hI hh
  refine az_to 0 (pc2 := 0) (lv2 := [some (az_r 0), some (az_i (zf0))]) (st2 := []) (s2 := s) rfl ?_
  refine az_to 1 (pc2 := 1) (lv2 := [some (az_r 0), some (az_i (zf0))]) (st2 := [az_i (zf0)]) (s2 := s) rfl ?_
  by_cases h1 : 0 ≤ zf0 ∧ zf0 ≤ 5
  · skip
    obtain ⟨f, rfl⟩ : ∃ n0 : Nat, zf0 = n0 := ⟨zf0.toNat, by omega⟩
    refine az_to 0 (pc2 := 1) (lv2 := [some (az_r 0), some (az_i (((f : Nat) : Int)))]) (st2 := [az_i (((f : Nat) : Int))]) (s2 := s) (rfl) ?_
    by_cases h2 : 0 ≤ (((f : Nat) : Int)) ∧ (((f : Nat) : Int)) ≤ 5
    · skip
      refine az_clv (v := none) (t := s) (m2 := am_m_X9_needLand) (as := [az_i (((f : Nat) : Int))]) (rest := []) 4 rfl rfl ⟨rfl, rfl⟩ (by omega) (zs_X9_needLand_y (s := s) (z := (((f : Nat) : Int))) (by omega) (by first | assumption | exact ⟨by omega, by omega⟩) (by first | assumption | omega)) ?_
      refine az_to 0 (pc2 := 4) (lv2 := [some (az_r 0), some (az_i (((f : Nat) : Int)))]) (st2 := []) (s2 := s) rfl ?_
      refine az_to 3 (pc2 := 9) (lv2 := [some (az_r 0), some (az_i (((f : Nat) : Int)))]) (st2 := [az_i (1), az_r 6]) (s2 := s) rfl ?_
      refine az_cl (m2 := am_m_X7_measure) (as := [az_r 6, az_i (1)]) (rest := []) 12 rfl rfl ⟨rfl, rfl⟩ (by omega) (zs_X7_measure_1 (s := s)  (by omega) hR hI hh) (fun v3 t3 q3 => ?_) (fun E t3 q3 => by cases q3.1)
      obtain ⟨o3, ff3, gg3⟩ := q3
      cases o3
      refine az_to 0 (pc2 := 12) (lv2 := [some (az_r 0), some (az_i (((f : Nat) : Int)))]) (st2 := []) (s2 := t3) rfl ?_
      have hRm : zRel (t3 3) S := by rw [gg3 3 (by decide)]; exact hR
      have hLm : ∀ b, b < zn S 0 → t3 8 b = zln S 1 b := ff3
      refine az_to 3 (pc2 := 17) (lv2 := [some (az_r 0), some (az_i (((f : Nat) : Int)))]) (st2 := [az_i (((f : Nat) : Int)), az_r 6]) (s2 := t3) rfl ?_
      refine az_cl (m2 := am_m_X7_hangAll) (as := [az_r 6, az_i (((f : Nat) : Int))]) (rest := []) 20 rfl rfl ⟨rfl, rfl⟩ (by omega) (zs_X7_hangAll (s := t3) (f := f) (by omega) hRm hI hh hLm (by omega)) (fun v4 t4 q4 => ?_) (fun E t4 q4 => by cases q4.1)
      obtain ⟨o4, ff4, gg4⟩ := q4
      cases o4
      refine az_to 0 (pc2 := 20) (lv2 := [some (az_r 0), some (az_i (((f : Nat) : Int)))]) (st2 := []) (s2 := t4) rfl ?_
      have h116h : t4 30 1 = 16 := by rw [gg4 30 (by decide) (by decide) (by decide), gg3 30 (by decide)]; exact h116
      refine az_to 2 (pc2 := 24) (lv2 := [some (az_r 0), some (az_i (((f : Nat) : Int)))]) (st2 := [az_r 30]) (s2 := t4) rfl ?_
      refine az_clv (v := none) (t := am_up t4 30 2 (0)) (m2 := am_m_X3_clear) (as := [az_r 30]) (rest := []) 27 rfl rfl ⟨rfl, rfl⟩ (by omega) (zs_X3_clear_30 (s := t4)  (by omega) ) ?_
      refine az_to 0 (pc2 := 27) (lv2 := [some (az_r 0), some (az_i (((f : Nat) : Int)))]) (st2 := []) (s2 := am_up t4 30 2 (0)) rfl ?_
      have hl0 := (zLn_0 h116h).1
      have hF0 := (zLn_0 h116h).2
      have hrw : ∀ v, v < 6 → am_up t4 30 2 (0) 16 v = zhg S f v := fun v hv => by rw [hF0.1 16 (by decide) (by decide)]; exact ff4 v hv
      refine az_to 6 (pc2 := 37) (lv2 := [some (az_r 0), some (az_i (((f : Nat) : Int)))]) (st2 := [az_i (0), az_i (((f : Nat) : Int)), az_r 6, az_r 30]) (s2 := am_up t4 30 2 (0)) rfl ?_
      refine az_cl (m2 := am_m_X9_writeHanging) (as := [az_r 30, az_r 6, az_i (((f : Nat) : Int)), az_i (0)]) (rest := []) 40 rfl rfl ⟨rfl, rfl⟩ (by omega) (zwh_all (S := S) (f := f) 6 (s := am_up t4 30 2 (0)) (c := f) (e := 0) (by omega) (by omega) hrw hl0 (by have := zsh_16 hI hh (f := f) (by omega); simpa [zsh] using this) (by omega) (zgH_6 (zhg_P hI hh (f := f)) (by omega))) (fun v5 t5 q5 => ?_) (fun E t5 q5 => by cases q5.1)
      obtain ⟨o5, hl5, hf5⟩ := q5
      cases o5
      refine az_to 0 (pc2 := 40) (lv2 := [some (az_r 0), some (az_i (((f : Nat) : Int)))]) (st2 := []) (s2 := t5) rfl ?_
      refine az_to 2 (pc2 := 44) (lv2 := [some (az_r 0), some (az_i (((f : Nat) : Int)))]) (st2 := [az_r 30]) (s2 := t5) rfl ?_
      refine az_clv (v := some (az_i (((([] ++ zgt (zhg S f) 6 f).length : Nat) : Int)))) (t := t5) (m2 := am_m_X3_length) (as := [az_r 30]) (rest := []) 47 rfl rfl ⟨rfl, rfl⟩ (by omega) (zs_X3_length_30l (s := t5) (l := ([] ++ zgt (zhg S f) 6 f)) (by omega) hl5) ?_
      refine az_to 0 (pc2 := 47) (lv2 := [some (az_r 0), some (az_i (((f : Nat) : Int)))]) (st2 := [az_i (((([] ++ zgt (zhg S f) 6 f).length : Nat) : Int))]) (s2 := t5) rfl ?_
      refine az_retI rfl rfl ?_
      have e : zq_show S ((f : Nat) : Int) = (0, ((zsh S f).length : Int)) := by unfold zq_show; rw [if_neg (by omega)]; rfl
      rw [e]
      exact ⟨rfl, fun _ => ⟨hl5, by rw [hf5.2.1, hF0.2.1, gg4 30 (by decide) (by decide) (by decide), gg3 30 (by decide)], by rw [hf5.2.2, hF0.2.2, gg4 30 (by decide) (by decide) (by decide), gg3 30 (by decide)], fun i i8 i10 i14 i16 i30 i32 => by rw [hf5.1 i i30 i32, hF0.1 i i30 i32, gg4 i i10 i14 i16, gg3 i i8]⟩, fun h => absurd rfl h⟩
    · skip
      refine az_cl (m2 := am_m_X9_needLand) (as := [az_i (((f : Nat) : Int))]) (rest := []) 4 rfl rfl ⟨rfl, rfl⟩ (by omega) (zs_X9_needLand_n (s := s) (z := (((f : Nat) : Int))) (by omega) (by first | assumption | exact ⟨by omega, by omega⟩) (by first | assumption | omega)) (fun v t q9 => by cases q9.1) (fun E9 t q9 => ?_)
      obtain ⟨q8, q9⟩ := q9
      cases q8
      rw [q9]
      first | (exfalso; omega; done) | (have e : zq_show S zf0 = (1, 0) := (by unfold zq_show; rw [if_pos (by assumption)]); rw [e]; exact ⟨rfl, fun h => absurd (show (1 : Nat) = 0 from h) (by decide), fun _ => rfl⟩)
  · skip
    refine az_cl (m2 := am_m_X9_needLand) (as := [az_i (zf0)]) (rest := []) 4 rfl rfl ⟨rfl, rfl⟩ (by omega) (zs_X9_needLand_n (s := s) (z := zf0) (by omega) (by first | assumption | exact ⟨by omega, by omega⟩) (by first | assumption | omega)) (fun v t q9 => by cases q9.1) (fun E9 t q9 => ?_)
    obtain ⟨q8, q9⟩ := q9
    cases q8
    rw [q9]
    first | (exfalso; omega; done) | (have e : zq_show S zf0 = (1, 0) := (by unfold zq_show; rw [if_pos (by assumption)]); rw [e]; exact ⟨rfl, fun h => absurd (show (1 : Nat) = 0 from h) (by decide), fun _ => rfl⟩)

