/-! CLASS, 12: showing all that hangs; written by program (wip/tools/zg/s12.py) -/
theorem zFl_r (s : az_S) : zFl s s := ⟨fun _ _ _ => rfl, rfl, rfl⟩
set_option maxRecDepth 100000 in
set_option maxHeartbeats 800000 in
theorem zs_X9_writeHanging_st_L18 {d : Nat} {s : az_S} (hd : 0 ≤ d) {S : zR} {f n e : Nat} (hd1 : 4 + n ≤ d) (IH : ∀ {d : Nat} {s : az_S} {l : List Int} {c e : Nat}, 3 + n ≤ d → e + n = 6 → (∀ v, v < 6 → s 16 v = zhg S f v) → zLn s l → l.length + (zgt (zhg S f) n c).length ≤ 16 → c < 6 → zgH (zhg S f) n c → az_R d am_m_X9_writeHanging 0 (az_ini (am_mL am_m_X9_writeHanging) [az_r 30, az_r 6, az_i ((c : Nat) : Int), az_i ((e : Nat) : Int)]) [] s (fun o t => o = .inl none ∧ zLn t (l ++ zgt (zhg S f) n c) ∧ zFl s t)) (he : e + (n + 1) = 6) (hrow : ∀ v, v < 6 → s 16 v = zhg S f v) {l : List Int} (hl : zLn s l) {v : Nat} (h16 : l.length + (zgt (zhg S f) (n + 1) v).length ≤ 16) (hv : v < 6) (hH : zgH (zhg S f) (n + 1) v) : ∀ (mq : Nat) (k : Nat) (u : az_S), mq = 6 - k → (k ≤ 6) → (zLn u (l ++ (48 + ((v : Nat) : Int)) :: zgx (zhg S f) (zgt (zhg S f) n) v k)) → (zFl s u) → az_R d am_m_X9_writeHanging 18 [some (az_r 30), some (az_r 6), some (az_i (((v : Nat) : Int))), some (az_i (((e : Nat) : Int))), some (az_i (az_b (¬ zga (zhg S f) v k = true))), some (az_i (((k : Nat) : Int)))] [] (u) (fun o t => o = .inl none ∧ zLn t (l ++ zgt (zhg S f) (n + 1) v) ∧ zFl s t) := by
  intro mq
  induction mq using Nat.strongRecOn with
  | _ mq ih =>
    intro k u hm g0 g1 g2
    refine az_to 2 (pc2 := 22) (lv2 := [some (az_r 30), some (az_r 6), some (az_i (((v : Nat) : Int))), some (az_i (((e : Nat) : Int))), some (az_i (az_b (¬ zga (zhg S f) v k = true))), some (az_i (((k : Nat) : Int)))]) (st2 := [az_i (6), az_i (((k : Nat) : Int))]) (s2 := u) rfl ?_
    refine az_if2 71 25 rfl (by decide) (by first | assumption | exact ⟨by omega, by omega⟩) ⟨by decide, by decide⟩ (fun h1 => ?_) (fun h1 => ?_)
    · have h1 : 6 ≤ ((k : Nat) : Int) := h1
      refine az_to 1 (pc2 := 73) (lv2 := [some (az_r 30), some (az_r 6), some (az_i (((v : Nat) : Int))), some (az_i (((e : Nat) : Int))), some (az_i (az_b (¬ zga (zhg S f) v k = true))), some (az_i (((k : Nat) : Int)))]) (st2 := [az_i (az_b (¬ zga (zhg S f) v k = true))]) (s2 := u) rfl ?_
      refine az_ifbn 83 76 rfl (by decide) (fun h2 => ?_) (fun h2 => ?_)
      · have h2 : ¬ zga (zhg S f) v k = true := h2
        refine az_ret0 rfl rfl ?_
        obtain rfl : k = 6 := by omega
        refine ⟨rfl, ?_, g2⟩
        rw [show zgt (zhg S f) (n + 1) v = (48 + ((v : Nat) : Int)) :: (zgx (zhg S f) (zgt (zhg S f) n) v 6 ++ []) from (by show _ :: (_ ++ _) = _; rw [if_neg (by assumption)]), List.append_nil]
        exact g1
      · have h2 : ¬ (¬ zga (zhg S f) v k = true) := h2
        have hy : zga (zhg S f) v k = true := Decidable.not_not.mp h2
        obtain hk6 : k = 6 := by omega
        have hx3 : (zgt (zhg S f) (n + 1) v).length = (zgx (zhg S f) (zgt (zhg S f) n) v k).length + 1 + 1 := by
          show ((48 + ((v : Nat) : Int)) :: (_ ++ _)).length = _
          rw [hk6] at hy ⊢
          rw [List.length_cons, List.length_append, if_pos hy]
          rfl
        refine az_to 2 (pc2 := 79) (lv2 := [some (az_r 30), some (az_r 6), some (az_i (((v : Nat) : Int))), some (az_i (((e : Nat) : Int))), some (az_i (az_b (¬ zga (zhg S f) v k = true))), some (az_i (((k : Nat) : Int)))]) (st2 := [az_i (41), az_r 30]) (s2 := u) rfl ?_
        refine az_cl (m2 := am_m_X3_append) (as := [az_r 30, az_i (41)]) (rest := []) 82 rfl rfl ⟨rfl, rfl⟩ (by omega) (zs_X3_append_30 (s := u) (ch := 41) (by omega) g1 (by simp only [List.length_append, List.length_cons, List.length_nil]; omega)) (fun v3 t3 q3 => ?_) (fun E t3 q3 => by cases q3.1)
        obtain ⟨o3, hl3, hf3⟩ := q3
        cases o3
        refine az_to 0 (pc2 := 82) (lv2 := [some (az_r 30), some (az_r 6), some (az_i (((v : Nat) : Int))), some (az_i (((e : Nat) : Int))), some (az_i (az_b (¬ zga (zhg S f) v k = true))), some (az_i (((k : Nat) : Int)))]) (st2 := [az_i (1)]) (s2 := t3) rfl ?_
        have hF3 := zFl_t g2 hf3
        refine az_to 1 (pc2 := 83) (lv2 := [some (az_r 30), some (az_r 6), some (az_i (((v : Nat) : Int))), some (az_i (((e : Nat) : Int))), some (az_i (az_b (¬ zga (zhg S f) v k = true))), some (az_i (((k : Nat) : Int)))]) (st2 := []) (s2 := t3) rfl ?_
        refine az_ret0 rfl rfl ?_
        subst hk6
        refine ⟨rfl, ?_, hF3⟩
        have q := hl3
        rw [show zgt (zhg S f) (n + 1) v = (48 + ((v : Nat) : Int)) :: (zgx (zhg S f) (zgt (zhg S f) n) v 6 ++ [41]) from (by show _ :: (_ ++ _) = _; rw [if_pos hy])]
        simpa using q
    · have h1 : ¬ (6 ≤ ((k : Nat) : Int)) := h1
      refine az_to 2 (pc2 := 28) (lv2 := [some (az_r 30), some (az_r 6), some (az_i (((v : Nat) : Int))), some (az_i (((e : Nat) : Int))), some (az_i (az_b (¬ zga (zhg S f) v k = true))), some (az_i (((k : Nat) : Int)))]) (st2 := [az_i (((k : Nat) : Int)), az_r 6]) (s2 := u) rfl ?_
      refine az_clv (v := some (az_i (u 16 k))) (t := u) (m2 := am_m_X7_hangerKept) (as := [az_r 6, az_i (((k : Nat) : Int))]) (rest := []) 31 rfl rfl ⟨rfl, rfl⟩ (by omega) (zs_X7_hangerKept (s := u) (v := k) (by omega) (by omega)) ?_
      refine az_to 0 (pc2 := 31) (lv2 := [some (az_r 30), some (az_r 6), some (az_i (((v : Nat) : Int))), some (az_i (((e : Nat) : Int))), some (az_i (az_b (¬ zga (zhg S f) v k = true))), some (az_i (((k : Nat) : Int)))]) (st2 := [az_i (u 16 k)]) (s2 := u) rfl ?_
      have hgr : -1 ≤ zhg S f k ∧ zhg S f k < 6 := zf_lt _ 6
      refine az_to 0 (pc2 := 31) (lv2 := [some (az_r 30), some (az_r 6), some (az_i (((v : Nat) : Int))), some (az_i (((e : Nat) : Int))), some (az_i (az_b (¬ zga (zhg S f) v k = true))), some (az_i (((k : Nat) : Int)))]) (st2 := [az_i (zhg S f k)]) (s2 := u) (by rw [show u 16 k = zhg S f k from (by rw [g2.1 16 (by decide) (by decide)]; exact hrow k (by omega))]; rfl) ?_
      refine az_to 1 (pc2 := 32) (lv2 := [some (az_r 30), some (az_r 6), some (az_i (((v : Nat) : Int))), some (az_i (((e : Nat) : Int))), some (az_i (az_b (¬ zga (zhg S f) v k = true))), some (az_i (((k : Nat) : Int)))]) (st2 := [az_i (((v : Nat) : Int)), az_i (zhg S f k)]) (s2 := u) rfl ?_
      refine az_if2 65 35 rfl (by decide) (by first | assumption | exact ⟨by omega, by omega⟩) (by first | assumption | exact ⟨by omega, by omega⟩) (fun h4 => ?_) (fun h4 => ?_)
      · have h4 : ¬ zhg S f k = ((v : Nat) : Int) := h4
        refine az_to 2 (pc2 := 18) (lv2 := [some (az_r 30), some (az_r 6), some (az_i (((v : Nat) : Int))), some (az_i (((e : Nat) : Int))), some (az_i (az_b (¬ zga (zhg S f) v k = true))), some (az_i ((((k : Nat) : Int) + 1)))]) (st2 := []) (s2 := u) rfl ?_
        refine az_to 0 (pc2 := 18) (lv2 := [some (az_r 30), some (az_r 6), some (az_i (((v : Nat) : Int))), some (az_i (((e : Nat) : Int))), some (az_i (az_b (¬ zga (zhg S f) v (k + 1) = true))), some (az_i ((((k : Nat) : Int) + 1)))]) (st2 := []) (s2 := u) (by rw [show az_b (¬ zga (zhg S f) v (k + 1) = true) = az_b (¬ zga (zhg S f) v k = true) from (by simp only [zga_n (by assumption)])]; rfl) ?_
        exact ih _ (by omega) (k + 1) u rfl (by omega) (by rw [zgx_n (by assumption)]; exact g1) g2
      · have h4 : zhg S f k = ((v : Nat) : Int) := Decidable.not_not.mp h4
        have hx1 := zgx_y (g := zgt (zhg S f) n) h4
        have hx2 := zgx_le (P := zhg S f) (g := zgt (zhg S f) n) (v := v) (j := k + 1) 6 (by omega)
        rw [hx1, List.length_append, List.length_cons] at hx2
        have hx3 : (zgt (zhg S f) (n + 1) v).length = (zgx (zhg S f) (zgt (zhg S f) n) v 6).length + (if zga (zhg S f) v 6 = true then [41] else [] : List Int).length + 1 := by
          show ((48 + ((v : Nat) : Int)) :: (_ ++ _)).length = _
          rw [List.length_cons, List.length_append]
        refine az_to 2 (pc2 := 38) (lv2 := [some (az_r 30), some (az_r 6), some (az_i (((v : Nat) : Int))), some (az_i (((e : Nat) : Int))), some (az_i (az_b (¬ zga (zhg S f) v k = true))), some (az_i (((k : Nat) : Int)))]) (st2 := [az_i (az_b (¬ zga (zhg S f) v k = true)), az_r 30]) (s2 := u) rfl ?_
        refine az_ifbe 46 41 rfl (by decide) (fun h5 => ?_) (fun h5 => ?_)
        · have h5 : ¬ (¬ zga (zhg S f) v k = true) := h5
          refine az_to 1 (pc2 := 48) (lv2 := [some (az_r 30), some (az_r 6), some (az_i (((v : Nat) : Int))), some (az_i (((e : Nat) : Int))), some (az_i (az_b (¬ zga (zhg S f) v k = true))), some (az_i (((k : Nat) : Int)))]) (st2 := [az_i (32), az_r 30]) (s2 := u) rfl ?_
          refine az_cl (m2 := am_m_X3_append) (as := [az_r 30, az_i (32)]) (rest := []) 51 rfl rfl ⟨rfl, rfl⟩ (by omega) (zs_X3_append_30 (s := u) (ch := 32) (by omega) g1 (by simp only [List.length_append, List.length_cons, List.length_nil]; omega)) (fun v6 t6 q6 => ?_) (fun E t6 q6 => by cases q6.1)
          obtain ⟨o6, hl6, hf6⟩ := q6
          cases o6
          refine az_to 0 (pc2 := 51) (lv2 := [some (az_r 30), some (az_r 6), some (az_i (((v : Nat) : Int))), some (az_i (((e : Nat) : Int))), some (az_i (az_b (¬ zga (zhg S f) v k = true))), some (az_i (((k : Nat) : Int)))]) (st2 := [az_i (1)]) (s2 := t6) rfl ?_
          have hF6 := zFl_t g2 hf6
          refine az_to 9 (pc2 := 62) (lv2 := [some (az_r 30), some (az_r 6), some (az_i (((v : Nat) : Int))), some (az_i (((e : Nat) : Int))), some (az_i (0)), some (az_i (((k : Nat) : Int)))]) (st2 := [az_i ((((e : Nat) : Int) + 1)), az_i (((k : Nat) : Int)), az_r 6, az_r 30]) (s2 := t6) rfl ?_
          refine az_cl (m2 := am_m_X9_writeHanging) (as := [az_r 30, az_r 6, az_i (((k : Nat) : Int)), az_i ((((e : Nat) : Int) + 1))]) (rest := []) 65 rfl rfl ⟨rfl, rfl⟩ (by omega) (IH (s := t6) (c := k) (e := (e + 1)) (by omega) (by omega) (fun v0 hv0 => by rw [hF6.1 16 (by decide) (by decide)]; exact hrow v0 hv0) hl6 (by simp only [List.length_append, List.length_cons, List.length_nil]; omega) (by omega) (zgH_c hH (by assumption))) (fun v7 t7 q7 => ?_) (fun E t7 q7 => by cases q7.1)
          obtain ⟨o7, hl7, hf7⟩ := q7
          cases o7
          refine az_to 0 (pc2 := 65) (lv2 := [some (az_r 30), some (az_r 6), some (az_i (((v : Nat) : Int))), some (az_i (((e : Nat) : Int))), some (az_i (0)), some (az_i (((k : Nat) : Int)))]) (st2 := []) (s2 := t7) rfl ?_
          have hF7 := zFl_t hF6 hf7
          refine az_to 2 (pc2 := 18) (lv2 := [some (az_r 30), some (az_r 6), some (az_i (((v : Nat) : Int))), some (az_i (((e : Nat) : Int))), some (az_i (0)), some (az_i ((((k : Nat) : Int) + 1)))]) (st2 := []) (s2 := t7) rfl ?_
          refine az_to 0 (pc2 := 18) (lv2 := [some (az_r 30), some (az_r 6), some (az_i (((v : Nat) : Int))), some (az_i (((e : Nat) : Int))), some (az_i (az_b (¬ zga (zhg S f) v (k + 1) = true))), some (az_i ((((k : Nat) : Int) + 1)))]) (st2 := []) (s2 := t7) (by rw [show az_b (¬ zga (zhg S f) v (k + 1) = true) = 0 from az_b0 (by rw [zga_y (by assumption)]; simp)]; rfl) ?_
          exact ih _ (by omega) (k + 1) t7 rfl (by omega) (by rw [zgx_y (by assumption), if_pos (Decidable.not_not.mp (by assumption))]; have q := hl7; simpa using q) hF7
        · have h5 : ¬ zga (zhg S f) v k = true := h5
          refine az_to 2 (pc2 := 48) (lv2 := [some (az_r 30), some (az_r 6), some (az_i (((v : Nat) : Int))), some (az_i (((e : Nat) : Int))), some (az_i (az_b (¬ zga (zhg S f) v k = true))), some (az_i (((k : Nat) : Int)))]) (st2 := [az_i (40), az_r 30]) (s2 := u) rfl ?_
          refine az_cl (m2 := am_m_X3_append) (as := [az_r 30, az_i (40)]) (rest := []) 51 rfl rfl ⟨rfl, rfl⟩ (by omega) (zs_X3_append_30 (s := u) (ch := 40) (by omega) g1 (by simp only [List.length_append, List.length_cons, List.length_nil]; omega)) (fun v8 t8 q8 => ?_) (fun E t8 q8 => by cases q8.1)
          obtain ⟨o8, hl8, hf8⟩ := q8
          cases o8
          refine az_to 0 (pc2 := 51) (lv2 := [some (az_r 30), some (az_r 6), some (az_i (((v : Nat) : Int))), some (az_i (((e : Nat) : Int))), some (az_i (az_b (¬ zga (zhg S f) v k = true))), some (az_i (((k : Nat) : Int)))]) (st2 := [az_i (1)]) (s2 := t8) rfl ?_
          have hF8 := zFl_t g2 hf8
          refine az_to 9 (pc2 := 62) (lv2 := [some (az_r 30), some (az_r 6), some (az_i (((v : Nat) : Int))), some (az_i (((e : Nat) : Int))), some (az_i (0)), some (az_i (((k : Nat) : Int)))]) (st2 := [az_i ((((e : Nat) : Int) + 1)), az_i (((k : Nat) : Int)), az_r 6, az_r 30]) (s2 := t8) rfl ?_
          refine az_cl (m2 := am_m_X9_writeHanging) (as := [az_r 30, az_r 6, az_i (((k : Nat) : Int)), az_i ((((e : Nat) : Int) + 1))]) (rest := []) 65 rfl rfl ⟨rfl, rfl⟩ (by omega) (IH (s := t8) (c := k) (e := (e + 1)) (by omega) (by omega) (fun v0 hv0 => by rw [hF8.1 16 (by decide) (by decide)]; exact hrow v0 hv0) hl8 (by simp only [List.length_append, List.length_cons, List.length_nil]; omega) (by omega) (zgH_c hH (by assumption))) (fun v9 t9 q9 => ?_) (fun E t9 q9 => by cases q9.1)
          obtain ⟨o9, hl9, hf9⟩ := q9
          cases o9
          refine az_to 0 (pc2 := 65) (lv2 := [some (az_r 30), some (az_r 6), some (az_i (((v : Nat) : Int))), some (az_i (((e : Nat) : Int))), some (az_i (0)), some (az_i (((k : Nat) : Int)))]) (st2 := []) (s2 := t9) rfl ?_
          have hF9 := zFl_t hF8 hf9
          refine az_to 2 (pc2 := 18) (lv2 := [some (az_r 30), some (az_r 6), some (az_i (((v : Nat) : Int))), some (az_i (((e : Nat) : Int))), some (az_i (0)), some (az_i ((((k : Nat) : Int) + 1)))]) (st2 := []) (s2 := t9) rfl ?_
          refine az_to 0 (pc2 := 18) (lv2 := [some (az_r 30), some (az_r 6), some (az_i (((v : Nat) : Int))), some (az_i (((e : Nat) : Int))), some (az_i (az_b (¬ zga (zhg S f) v (k + 1) = true))), some (az_i ((((k : Nat) : Int) + 1)))]) (st2 := []) (s2 := t9) (by rw [show az_b (¬ zga (zhg S f) v (k + 1) = true) = 0 from az_b0 (by rw [zga_y (by assumption)]; simp)]; rfl) ?_
          exact ih _ (by omega) (k + 1) t9 rfl (by omega) (by rw [zgx_y (by assumption), if_neg (by assumption)]; have q := hl9; simpa using q) hF9
set_option maxRecDepth 100000 in
set_option maxHeartbeats 800000 in
theorem zs_X9_writeHanging_st {d : Nat} {s : az_S} (hd : 0 ≤ d) {S : zR} {f n e : Nat} (hd1 : 4 + n ≤ d) (IH : ∀ {d : Nat} {s : az_S} {l : List Int} {c e : Nat}, 3 + n ≤ d → e + n = 6 → (∀ v, v < 6 → s 16 v = zhg S f v) → zLn s l → l.length + (zgt (zhg S f) n c).length ≤ 16 → c < 6 → zgH (zhg S f) n c → az_R d am_m_X9_writeHanging 0 (az_ini (am_mL am_m_X9_writeHanging) [az_r 30, az_r 6, az_i ((c : Nat) : Int), az_i ((e : Nat) : Int)]) [] s (fun o t => o = .inl none ∧ zLn t (l ++ zgt (zhg S f) n c) ∧ zFl s t)) (he : e + (n + 1) = 6) (hrow : ∀ v, v < 6 → s 16 v = zhg S f v) {l : List Int} (hl : zLn s l) {v : Nat} (h16 : l.length + (zgt (zhg S f) (n + 1) v).length ≤ 16) (hv : v < 6) (hH : zgH (zhg S f) (n + 1) v) : az_R d am_m_X9_writeHanging 0 (az_ini (am_mL am_m_X9_writeHanging) [az_r 30, az_r 6, az_i (((v : Nat) : Int)), az_i (((e : Nat) : Int))]) [] (s) (fun o t => o = .inl none ∧ zLn t (l ++ zgt (zhg S f) (n + 1) v) ∧ zFl s t) := by
  refine az_to 0 (pc2 := 0) (lv2 := [some (az_r 30), some (az_r 6), some (az_i (((v : Nat) : Int))), some (az_i (((e : Nat) : Int))), none, none]) (st2 := []) (s2 := s) rfl ?_
  refine az_to 2 (pc2 := 2) (lv2 := [some (az_r 30), some (az_r 6), some (az_i (((v : Nat) : Int))), some (az_i (((e : Nat) : Int))), none, none]) (st2 := [az_i (((v : Nat) : Int)), az_r 30]) (s2 := s) rfl ?_
  refine az_cl (m2 := am_m_X3_appendDigit) (as := [az_r 30, az_i (((v : Nat) : Int))]) (rest := []) 5 rfl rfl ⟨rfl, rfl⟩ (by omega) (zs_X3_appendDigit_30 (s := s) (dg := (((v : Nat) : Int))) (by omega) hl (by have := h16; simp only [zgt, List.length_cons] at this; omega) (by omega)) (fun v10 t10 q10 => ?_) (fun E t10 q10 => by cases q10.1)
  obtain ⟨o10, hl10, hf10⟩ := q10
  cases o10
  refine az_to 0 (pc2 := 5) (lv2 := [some (az_r 30), some (az_r 6), some (az_i (((v : Nat) : Int))), some (az_i (((e : Nat) : Int))), none, none]) (st2 := []) (s2 := t10) rfl ?_
  have hF0 := zFl_r s
  have hF10 := zFl_t hF0 hf10
  refine az_to 2 (pc2 := 8) (lv2 := [some (az_r 30), some (az_r 6), some (az_i (((v : Nat) : Int))), some (az_i (((e : Nat) : Int))), none, none]) (st2 := [az_i (6), az_i (((e : Nat) : Int))]) (s2 := t10) rfl ?_
  refine az_if2 12 11 rfl (by decide) (by first | assumption | exact ⟨by omega, by omega⟩) ⟨by decide, by decide⟩ (fun h11 => ?_) (fun h11 => ?_)
  · have h11 : ((e : Nat) : Int) < 6 := h11
    refine az_to 4 (pc2 := 18) (lv2 := [some (az_r 30), some (az_r 6), some (az_i (((v : Nat) : Int))), some (az_i (((e : Nat) : Int))), some (az_i (1)), some (az_i (0))]) (st2 := []) (s2 := t10) rfl ?_
    refine az_to 0 (pc2 := 18) (lv2 := [some (az_r 30), some (az_r 6), some (az_i (((v : Nat) : Int))), some (az_i (((e : Nat) : Int))), some (az_i (az_b (¬ zga (zhg S f) v 0 = true))), some (az_i (0))]) (st2 := []) (s2 := t10) (by rw [show az_b (¬ zga (zhg S f) v 0 = true) = 1 from az_b1 (by intro q; cases q)]; rfl) ?_
    exact zs_X9_writeHanging_st_L18 (by omega) hd1 IH he hrow hl h16 hv hH _ 0 t10 rfl (by omega) hl10 hF10
  · have h11 : ¬ (((e : Nat) : Int) < 6) := h11
    exact absurd h11 (by omega)
