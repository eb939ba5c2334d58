/-! REFERENCE, 7: showing all that hangs; written by program (wip/tools/zg/r7.py) -/
set_option maxRecDepth 100000 in
set_option maxHeartbeats 800000 in
theorem zs_X10_hanging_st_L13 {d : Nat} {s : az_S} (hd : 0 ≤ d) {S : zR} {h : Nat} (hS : s 35 = S) (hI : zInv S h) (hh : h ≤ 10000) {f n : Nat} (hd1 : 5 + n ≤ d) (IH : ∀ {d : Nat} {s : az_S} {l : List Int} {c : Nat}, 4 + n ≤ d → s 35 = S → zgd S 1 f 9999 (s 39) → zLm s l → l.length + (zgt (zhg S f) n c).length ≤ 16 → c < 6 → zgH (zhg S f) n c → az_R d am_m_X10_hanging 0 (az_ini (am_mL am_m_X10_hanging) [az_r 34, az_i ((c : Nat) : Int), az_i ((f : Nat) : Int)]) [] s (fun o t => o = .inl none ∧ zLm t (l ++ zgt (zhg S f) n c) ∧ zFM s t)) (hf : f < 6) (hD : zgd S 1 f 9999 (s 39)) (h0 : ∃ E, zgd S 1 f 1000 E) {l : List Int} (hl : zLm s l) {v : Nat} (h16 : l.length + (zgt (zhg S f) (n + 1) v).length ≤ 16) (hv : v < 6) (hH : zgH (zhg S f) (n + 1) v) : ∀ (mq : Nat) (k : Nat) (u : az_S), mq = 6 - k → (k ≤ 6) → (zLm u (l ++ (48 + ((v : Nat) : Int)) :: zgx (zhg S f) (zgt (zhg S f) n) v k)) → (zFM s u) → az_R d am_m_X10_hanging 13 [some (az_r 34), some (az_i (((v : Nat) : Int))), some (az_i (((f : Nat) : Int))), some (az_i (az_b (¬ zga (zhg S f) v k = true))), some (az_i (((k : Nat) : Int)))] [] (u) (fun o t => o = .inl none ∧ zLm t (l ++ zgt (zhg S f) (n + 1) v) ∧ zFM s t) := by
  intro mq
  induction mq using Nat.strongRecOn with
  | _ mq ih =>
    intro k u hm g0 g1 g2
    refine az_to 2 (pc2 := 17) (lv2 := [some (az_r 34), some (az_i (((v : Nat) : Int))), some (az_i (((f : Nat) : Int))), some (az_i (az_b (¬ zga (zhg S f) v k = true))), some (az_i (((k : Nat) : Int)))]) (st2 := [az_i (6), az_i (((k : Nat) : Int))]) (s2 := u) rfl ?_
    refine az_if2 79 20 rfl (by decide) (by first | assumption | exact ⟨by omega, by omega⟩) ⟨by decide, by decide⟩ (fun h1 => ?_) (fun h1 => ?_)
    · have h1 : 6 ≤ ((k : Nat) : Int) := h1
      refine az_to 1 (pc2 := 80) (lv2 := [some (az_r 34), some (az_i (((v : Nat) : Int))), some (az_i (((f : Nat) : Int))), some (az_i (az_b (¬ zga (zhg S f) v k = true))), some (az_i (((k : Nat) : Int)))]) (st2 := [az_i (az_b (¬ zga (zhg S f) v k = true))]) (s2 := u) rfl ?_
      refine az_ifbn 89 83 rfl (by decide) (fun h2 => ?_) (fun h2 => ?_)
      · have h2 : ¬ zga (zhg S f) v k = true := h2
        refine az_ret0 rfl rfl ?_
        obtain rfl : k = 6 := by omega
        refine ⟨rfl, ?_, g2⟩
        rw [show zgt (zhg S f) (n + 1) v = (48 + ((v : Nat) : Int)) :: (zgx (zhg S f) (zgt (zhg S f) n) v 6 ++ []) from (by show _ :: (_ ++ _) = _; rw [if_neg (by assumption)]), List.append_nil]
        exact g1
      · have h2 : ¬ (¬ zga (zhg S f) v k = true) := h2
        have hy : zga (zhg S f) v k = true := Decidable.not_not.mp h2
        obtain hk6 : k = 6 := by omega
        have hx3 : (zgt (zhg S f) (n + 1) v).length = (zgx (zhg S f) (zgt (zhg S f) n) v k).length + 1 + 1 := by
          show ((48 + ((v : Nat) : Int)) :: (_ ++ _)).length = _
          rw [hk6] at hy ⊢
          rw [List.length_cons, List.length_append, if_pos hy]
          rfl
        refine az_to 2 (pc2 := 86) (lv2 := [some (az_r 34), some (az_i (((v : Nat) : Int))), some (az_i (((f : Nat) : Int))), some (az_i (az_b (¬ zga (zhg S f) v k = true))), some (az_i (((k : Nat) : Int)))]) (st2 := [az_i (41), az_r 34]) (s2 := u) rfl ?_
        refine az_cl (m2 := am_m_X10_puts) (as := [az_r 34, az_i (41)]) (rest := []) 89 rfl rfl ⟨rfl, rfl⟩ (by omega) (zs_X10_puts (s := u) (ch := 41) (by omega) g1 (by simp only [List.length_append, List.length_cons, List.length_nil]; omega)) (fun v3 t3 q3 => ?_) (fun E t3 q3 => by cases q3.1)
        obtain ⟨o3, hl3, hf3⟩ := q3
        cases o3
        refine az_to 0 (pc2 := 89) (lv2 := [some (az_r 34), some (az_i (((v : Nat) : Int))), some (az_i (((f : Nat) : Int))), some (az_i (az_b (¬ zga (zhg S f) v k = true))), some (az_i (((k : Nat) : Int)))]) (st2 := []) (s2 := t3) rfl ?_
        have hF3 := zFM_t (g2) hf3
        refine az_ret0 rfl rfl ?_
        subst hk6
        refine ⟨rfl, ?_, hF3⟩
        have q := hl3
        rw [show zgt (zhg S f) (n + 1) v = (48 + ((v : Nat) : Int)) :: (zgx (zhg S f) (zgt (zhg S f) n) v 6 ++ [41]) from (by show _ :: (_ ++ _) = _; rw [if_pos hy])]
        simpa using q
    · have h1 : ¬ (6 ≤ ((k : Nat) : Int)) := h1
      refine az_to 2 (pc2 := 23) (lv2 := [some (az_r 34), some (az_i (((v : Nat) : Int))), some (az_i (((f : Nat) : Int))), some (az_i (az_b (¬ zga (zhg S f) v k = true))), some (az_i (((k : Nat) : Int)))]) (st2 := [az_i (((f : Nat) : Int)), az_i (((k : Nat) : Int))]) (s2 := u) rfl ?_
      refine az_if2 73 26 rfl (by decide) (by first | assumption | exact ⟨by omega, by omega⟩) (by first | assumption | exact ⟨by omega, by omega⟩) (fun h4 => ?_) (fun h4 => ?_)
      · have h4 : ((k : Nat) : Int) = ((f : Nat) : Int) := h4
        refine az_to 2 (pc2 := 13) (lv2 := [some (az_r 34), some (az_i (((v : Nat) : Int))), some (az_i (((f : Nat) : Int))), some (az_i (az_b (¬ zga (zhg S f) v k = true))), some (az_i ((((k : Nat) : Int) + 1)))]) (st2 := []) (s2 := u) rfl ?_
        have hne : ¬ zhg S f k = ((v : Nat) : Int) := by
          rw [zhg_no hI hh hf (v := k) (by omega) h0 (Or.inl (by omega))]
          omega
        refine az_to 0 (pc2 := 13) (lv2 := [some (az_r 34), some (az_i (((v : Nat) : Int))), some (az_i (((f : Nat) : Int))), some (az_i (az_b (¬ zga (zhg S f) v (k + 1) = true))), some (az_i ((((k : Nat) : Int) + 1)))]) (st2 := []) (s2 := u) (by rw [show az_b (¬ zga (zhg S f) v (k + 1) = true) = az_b (¬ zga (zhg S f) v k = true) from (by simp only [zga_n (by assumption)])]; rfl) ?_
        exact ih _ (by omega) (k + 1) u rfl (by omega) (by rw [zgx_n (by assumption)]; exact g1) g2
      · have h4 : ¬ (((k : Nat) : Int) = ((f : Nat) : Int)) := h4
        have hur : 0 ≤ u 39 k ∧ u 39 k ≤ 9999 := by rw [g2.1 39 (by decide) (by decide)]; exact hD.2.1 k (by omega)
        refine az_to 3 (pc2 := 32) (lv2 := [some (az_r 34), some (az_i (((v : Nat) : Int))), some (az_i (((f : Nat) : Int))), some (az_i (az_b (¬ zga (zhg S f) v k = true))), some (az_i (((k : Nat) : Int)))]) (st2 := [az_i (((k : Nat) : Int)), az_r 39]) (s2 := u) rfl ?_
        refine az_ld_i 33 rfl rfl (by constructor <;> omega) ⟨by decide, rfl⟩ ?_
        refine az_to 0 (pc2 := 33) (lv2 := [some (az_r 34), some (az_i (((v : Nat) : Int))), some (az_i (((f : Nat) : Int))), some (az_i (az_b (¬ zga (zhg S f) v k = true))), some (az_i (((k : Nat) : Int)))]) (st2 := [az_i (u 39 k)]) (s2 := u) rfl ?_
        refine az_to 1 (pc2 := 36) (lv2 := [some (az_r 34), some (az_i (((v : Nat) : Int))), some (az_i (((f : Nat) : Int))), some (az_i (az_b (¬ zga (zhg S f) v k = true))), some (az_i (((k : Nat) : Int)))]) (st2 := [az_i (9999), az_i (u 39 k)]) (s2 := u) rfl ?_
        refine az_if2 73 39 rfl (by decide) (by first | assumption | exact ⟨by omega, by omega⟩) ⟨by decide, by decide⟩ (fun h5 => ?_) (fun h5 => ?_)
        · have h5 : u 39 k = 9999 := h5
          refine az_to 2 (pc2 := 13) (lv2 := [some (az_r 34), some (az_i (((v : Nat) : Int))), some (az_i (((f : Nat) : Int))), some (az_i (az_b (¬ zga (zhg S f) v k = true))), some (az_i ((((k : Nat) : Int) + 1)))]) (st2 := []) (s2 := u) rfl ?_
          have hne : ¬ zhg S f k = ((v : Nat) : Int) := by
            have q1 := zdi_r hI hh hf (by omega) hD h0 (v := k) (by omega)
            have q2 : u 39 k = s 39 k := by rw [g2.1 39 (by decide) (by decide)]
            rw [zhg_no hI hh hf (v := k) (by omega) h0 (Or.inr (by omega))]
            omega
          refine az_to 0 (pc2 := 13) (lv2 := [some (az_r 34), some (az_i (((v : Nat) : Int))), some (az_i (((f : Nat) : Int))), some (az_i (az_b (¬ zga (zhg S f) v (k + 1) = true))), some (az_i ((((k : Nat) : Int) + 1)))]) (st2 := []) (s2 := u) (by rw [show az_b (¬ zga (zhg S f) v (k + 1) = true) = az_b (¬ zga (zhg S f) v k = true) from (by simp only [zga_n (by assumption)])]; rfl) ?_
          exact ih _ (by omega) (k + 1) u rfl (by omega) (by rw [zgx_n (by assumption)]; exact g1) g2
        · have h5 : ¬ (u 39 k = 9999) := h5
          have hgr : -1 ≤ zhg S f k ∧ zhg S f k < 6 := zf_lt _ 6
          refine az_to 2 (pc2 := 42) (lv2 := [some (az_r 34), some (az_i (((v : Nat) : Int))), some (az_i (((f : Nat) : Int))), some (az_i (az_b (¬ zga (zhg S f) v k = true))), some (az_i (((k : Nat) : Int)))]) (st2 := [az_i (((k : Nat) : Int)), az_r 34]) (s2 := u) rfl ?_
          refine az_clv (v := some (az_i (zhg S f k))) (t := u) (m2 := am_m_X10_hangsOn) (as := [az_r 34, az_i (((k : Nat) : Int))]) (rest := []) 45 rfl rfl ⟨rfl, rfl⟩ (by omega) (zs_X10_hangsOn (s := u) (v := k) (by omega) (by rw [g2.1 35 (by decide) (by decide)]; exact hS) hI hh hf (by omega) (by rw [g2.1 39 (by decide) (by decide)]; exact hD) h0 (by assumption)) ?_
          refine az_to 0 (pc2 := 45) (lv2 := [some (az_r 34), some (az_i (((v : Nat) : Int))), some (az_i (((f : Nat) : Int))), some (az_i (az_b (¬ zga (zhg S f) v k = true))), some (az_i (((k : Nat) : Int)))]) (st2 := [az_i (zhg S f k)]) (s2 := u) rfl ?_
          refine az_to 1 (pc2 := 46) (lv2 := [some (az_r 34), some (az_i (((v : Nat) : Int))), some (az_i (((f : Nat) : Int))), some (az_i (az_b (¬ zga (zhg S f) v k = true))), some (az_i (((k : Nat) : Int)))]) (st2 := [az_i (((v : Nat) : Int)), az_i (zhg S f k)]) (s2 := u) rfl ?_
          refine az_if2 73 49 rfl (by decide) (by first | assumption | exact ⟨by omega, by omega⟩) (by first | assumption | exact ⟨by omega, by omega⟩) (fun h6 => ?_) (fun h6 => ?_)
          · have h6 : ¬ zhg S f k = ((v : Nat) : Int) := h6
            refine az_to 2 (pc2 := 13) (lv2 := [some (az_r 34), some (az_i (((v : Nat) : Int))), some (az_i (((f : Nat) : Int))), some (az_i (az_b (¬ zga (zhg S f) v k = true))), some (az_i ((((k : Nat) : Int) + 1)))]) (st2 := []) (s2 := u) rfl ?_
            refine az_to 0 (pc2 := 13) (lv2 := [some (az_r 34), some (az_i (((v : Nat) : Int))), some (az_i (((f : Nat) : Int))), some (az_i (az_b (¬ zga (zhg S f) v (k + 1) = true))), some (az_i ((((k : Nat) : Int) + 1)))]) (st2 := []) (s2 := u) (by rw [show az_b (¬ zga (zhg S f) v (k + 1) = true) = az_b (¬ zga (zhg S f) v k = true) from (by simp only [zga_n (by assumption)])]; rfl) ?_
            exact ih _ (by omega) (k + 1) u rfl (by omega) (by rw [zgx_n (by assumption)]; exact g1) g2
          · have h6 : zhg S f k = ((v : Nat) : Int) := Decidable.not_not.mp h6
            have hx1 := zgx_y (g := zgt (zhg S f) n) h6
            have hx2 := zgx_le (P := zhg S f) (g := zgt (zhg S f) n) (v := v) (j := k + 1) 6 (by omega)
            rw [hx1, List.length_append, List.length_cons] at hx2
            have hx3 : (zgt (zhg S f) (n + 1) v).length = (zgx (zhg S f) (zgt (zhg S f) n) v 6).length + (if zga (zhg S f) v 6 = true then [41] else [] : List Int).length + 1 := by
              show ((48 + ((v : Nat) : Int)) :: (_ ++ _)).length = _
              rw [List.length_cons, List.length_append]
            refine az_to 2 (pc2 := 51) (lv2 := [some (az_r 34), some (az_i (((v : Nat) : Int))), some (az_i (((f : Nat) : Int))), some (az_i (az_b (¬ zga (zhg S f) v k = true))), some (az_i (((k : Nat) : Int)))]) (st2 := [az_i (az_b (¬ zga (zhg S f) v k = true)), az_r 34]) (s2 := u) rfl ?_
            refine az_ifbe 59 54 rfl (by decide) (fun h7 => ?_) (fun h7 => ?_)
            · have h7 : ¬ (¬ zga (zhg S f) v k = true) := h7
              refine az_to 1 (pc2 := 61) (lv2 := [some (az_r 34), some (az_i (((v : Nat) : Int))), some (az_i (((f : Nat) : Int))), some (az_i (az_b (¬ zga (zhg S f) v k = true))), some (az_i (((k : Nat) : Int)))]) (st2 := [az_i (32), az_r 34]) (s2 := u) rfl ?_
              refine az_cl (m2 := am_m_X10_puts) (as := [az_r 34, az_i (32)]) (rest := []) 64 rfl rfl ⟨rfl, rfl⟩ (by omega) (zs_X10_puts (s := u) (ch := 32) (by omega) g1 (by simp only [List.length_append, List.length_cons, List.length_nil]; omega)) (fun v8 t8 q8 => ?_) (fun E t8 q8 => by cases q8.1)
              obtain ⟨o8, hl8, hf8⟩ := q8
              cases o8
              refine az_to 0 (pc2 := 64) (lv2 := [some (az_r 34), some (az_i (((v : Nat) : Int))), some (az_i (((f : Nat) : Int))), some (az_i (az_b (¬ zga (zhg S f) v k = true))), some (az_i (((k : Nat) : Int)))]) (st2 := []) (s2 := t8) rfl ?_
              have hF8 := zFM_t (g2) hf8
              refine az_to 5 (pc2 := 70) (lv2 := [some (az_r 34), some (az_i (((v : Nat) : Int))), some (az_i (((f : Nat) : Int))), some (az_i (0)), some (az_i (((k : Nat) : Int)))]) (st2 := [az_i (((f : Nat) : Int)), az_i (((k : Nat) : Int)), az_r 34]) (s2 := t8) rfl ?_
              refine az_cl (m2 := am_m_X10_hanging) (as := [az_r 34, az_i (((k : Nat) : Int)), az_i (((f : Nat) : Int))]) (rest := []) 73 rfl rfl ⟨rfl, rfl⟩ (by omega) (IH (s := t8) (c := k) (by omega) (by rw [hF8.1 35 (by decide) (by decide)]; exact hS) (by rw [hF8.1 39 (by decide) (by decide)]; exact hD) hl8 (by simp only [List.length_append, List.length_cons, List.length_nil]; omega) (by omega) (zgH_c hH (by assumption))) (fun v9 t9 q9 => ?_) (fun E t9 q9 => by cases q9.1)
              obtain ⟨o9, hl9, hf9⟩ := q9
              cases o9
              refine az_to 0 (pc2 := 73) (lv2 := [some (az_r 34), some (az_i (((v : Nat) : Int))), some (az_i (((f : Nat) : Int))), some (az_i (0)), some (az_i (((k : Nat) : Int)))]) (st2 := []) (s2 := t9) rfl ?_
              have hF9 := zFM_t (hF8) hf9
              refine az_to 2 (pc2 := 13) (lv2 := [some (az_r 34), some (az_i (((v : Nat) : Int))), some (az_i (((f : Nat) : Int))), some (az_i (0)), some (az_i ((((k : Nat) : Int) + 1)))]) (st2 := []) (s2 := t9) rfl ?_
              refine az_to 0 (pc2 := 13) (lv2 := [some (az_r 34), some (az_i (((v : Nat) : Int))), some (az_i (((f : Nat) : Int))), some (az_i (az_b (¬ zga (zhg S f) v (k + 1) = true))), some (az_i ((((k : Nat) : Int) + 1)))]) (st2 := []) (s2 := t9) (by rw [show az_b (¬ zga (zhg S f) v (k + 1) = true) = 0 from az_b0 (by rw [zga_y (by assumption)]; simp)]; rfl) ?_
              exact ih _ (by omega) (k + 1) t9 rfl (by omega) (by rw [zgx_y (by assumption), if_pos (Decidable.not_not.mp (by assumption))]; have q := hl9; simpa using q) hF9
            · have h7 : ¬ zga (zhg S f) v k = true := h7
              refine az_to 2 (pc2 := 61) (lv2 := [some (az_r 34), some (az_i (((v : Nat) : Int))), some (az_i (((f : Nat) : Int))), some (az_i (az_b (¬ zga (zhg S f) v k = true))), some (az_i (((k : Nat) : Int)))]) (st2 := [az_i (40), az_r 34]) (s2 := u) rfl ?_
              refine az_cl (m2 := am_m_X10_puts) (as := [az_r 34, az_i (40)]) (rest := []) 64 rfl rfl ⟨rfl, rfl⟩ (by omega) (zs_X10_puts (s := u) (ch := 40) (by omega) g1 (by simp only [List.length_append, List.length_cons, List.length_nil]; omega)) (fun v10 t10 q10 => ?_) (fun E t10 q10 => by cases q10.1)
              obtain ⟨o10, hl10, hf10⟩ := q10
              cases o10
              refine az_to 0 (pc2 := 64) (lv2 := [some (az_r 34), some (az_i (((v : Nat) : Int))), some (az_i (((f : Nat) : Int))), some (az_i (az_b (¬ zga (zhg S f) v k = true))), some (az_i (((k : Nat) : Int)))]) (st2 := []) (s2 := t10) rfl ?_
              have hF10 := zFM_t (g2) hf10
              refine az_to 5 (pc2 := 70) (lv2 := [some (az_r 34), some (az_i (((v : Nat) : Int))), some (az_i (((f : Nat) : Int))), some (az_i (0)), some (az_i (((k : Nat) : Int)))]) (st2 := [az_i (((f : Nat) : Int)), az_i (((k : Nat) : Int)), az_r 34]) (s2 := t10) rfl ?_
              refine az_cl (m2 := am_m_X10_hanging) (as := [az_r 34, az_i (((k : Nat) : Int)), az_i (((f : Nat) : Int))]) (rest := []) 73 rfl rfl ⟨rfl, rfl⟩ (by omega) (IH (s := t10) (c := k) (by omega) (by rw [hF10.1 35 (by decide) (by decide)]; exact hS) (by rw [hF10.1 39 (by decide) (by decide)]; exact hD) hl10 (by simp only [List.length_append, List.length_cons, List.length_nil]; omega) (by omega) (zgH_c hH (by assumption))) (fun v11 t11 q11 => ?_) (fun E t11 q11 => by cases q11.1)
              obtain ⟨o11, hl11, hf11⟩ := q11
              cases o11
              refine az_to 0 (pc2 := 73) (lv2 := [some (az_r 34), some (az_i (((v : Nat) : Int))), some (az_i (((f : Nat) : Int))), some (az_i (0)), some (az_i (((k : Nat) : Int)))]) (st2 := []) (s2 := t11) rfl ?_
              have hF11 := zFM_t (hF10) hf11
              refine az_to 2 (pc2 := 13) (lv2 := [some (az_r 34), some (az_i (((v : Nat) : Int))), some (az_i (((f : Nat) : Int))), some (az_i (0)), some (az_i ((((k : Nat) : Int) + 1)))]) (st2 := []) (s2 := t11) rfl ?_
              refine az_to 0 (pc2 := 13) (lv2 := [some (az_r 34), some (az_i (((v : Nat) : Int))), some (az_i (((f : Nat) : Int))), some (az_i (az_b (¬ zga (zhg S f) v (k + 1) = true))), some (az_i ((((k : Nat) : Int) + 1)))]) (st2 := []) (s2 := t11) (by rw [show az_b (¬ zga (zhg S f) v (k + 1) = true) = 0 from az_b0 (by rw [zga_y (by assumption)]; simp)]; rfl) ?_
              exact ih _ (by omega) (k + 1) t11 rfl (by omega) (by rw [zgx_y (by assumption), if_neg (by assumption)]; have q := hl11; simpa using q) hF11
set_option maxRecDepth 100000 in
set_option maxHeartbeats 800000 in
theorem zs_X10_hanging_st {d : Nat} {s : az_S} (hd : 0 ≤ d) {S : zR} {h : Nat} (hS : s 35 = S) (hI : zInv S h) (hh : h ≤ 10000) {f n : Nat} (hd1 : 5 + n ≤ d) (IH : ∀ {d : Nat} {s : az_S} {l : List Int} {c : Nat}, 4 + n ≤ d → s 35 = S → zgd S 1 f 9999 (s 39) → zLm s l → l.length + (zgt (zhg S f) n c).length ≤ 16 → c < 6 → zgH (zhg S f) n c → az_R d am_m_X10_hanging 0 (az_ini (am_mL am_m_X10_hanging) [az_r 34, az_i ((c : Nat) : Int), az_i ((f : Nat) : Int)]) [] s (fun o t => o = .inl none ∧ zLm t (l ++ zgt (zhg S f) n c) ∧ zFM s t)) (hf : f < 6) (hD : zgd S 1 f 9999 (s 39)) (h0 : ∃ E, zgd S 1 f 1000 E) {l : List Int} (hl : zLm s l) {v : Nat} (h16 : l.length + (zgt (zhg S f) (n + 1) v).length ≤ 16) (hv : v < 6) (hH : zgH (zhg S f) (n + 1) v) : az_R d am_m_X10_hanging 0 (az_ini (am_mL am_m_X10_hanging) [az_r 34, az_i (((v : Nat) : Int)), az_i (((f : Nat) : Int))]) [] (s) (fun o t => o = .inl none ∧ zLm t (l ++ zgt (zhg S f) (n + 1) v) ∧ zFM s t) := by
  refine az_to 0 (pc2 := 0) (lv2 := [some (az_r 34), some (az_i (((v : Nat) : Int))), some (az_i (((f : Nat) : Int))), none, none]) (st2 := []) (s2 := s) rfl ?_
  refine az_to 4 (pc2 := 5) (lv2 := [some (az_r 34), some (az_i (((v : Nat) : Int))), some (az_i (((f : Nat) : Int))), none, none]) (st2 := [az_i ((48 + ((v : Nat) : Int))), az_r 34]) (s2 := s) rfl ?_
  refine az_cl (m2 := am_m_X10_puts) (as := [az_r 34, az_i ((48 + ((v : Nat) : Int)))]) (rest := []) 8 rfl rfl ⟨rfl, rfl⟩ (by omega) (zs_X10_puts (s := s) (ch := ((48 + ((v : Nat) : Int)))) (by omega) hl (by have := h16; simp only [zgt, List.length_cons] at this; omega)) (fun v12 t12 q12 => ?_) (fun E t12 q12 => by cases q12.1)
  obtain ⟨o12, hl12, hf12⟩ := q12
  cases o12
  refine az_to 0 (pc2 := 8) (lv2 := [some (az_r 34), some (az_i (((v : Nat) : Int))), some (az_i (((f : Nat) : Int))), none, none]) (st2 := []) (s2 := t12) rfl ?_
  have hF12 := zFM_t (zFM_r s) hf12
  refine az_to 4 (pc2 := 13) (lv2 := [some (az_r 34), some (az_i (((v : Nat) : Int))), some (az_i (((f : Nat) : Int))), some (az_i (1)), some (az_i (0))]) (st2 := []) (s2 := t12) rfl ?_
  refine az_to 0 (pc2 := 13) (lv2 := [some (az_r 34), some (az_i (((v : Nat) : Int))), some (az_i (((f : Nat) : Int))), some (az_i (az_b (¬ zga (zhg S f) v 0 = true))), some (az_i (0))]) (st2 := []) (s2 := t12) (by rw [show az_b (¬ zga (zhg S f) v 0 = true) = 1 from az_b1 (by intro q; cases q)]; rfl) ?_
  exact zs_X10_hanging_st_L13 (by omega) hS hI hh hd1 IH hf hD h0 hl h16 hv hH _ 0 t12 rfl (by omega) hl12 hF12
theorem zhn_all {S : zR} {h : Nat} (hI : zInv S h) (hh : h ≤ 10000) {f : Nat} (hf : f < 6) (h0 : ∃ E, zgd S 1 f 1000 E) : ∀ (n : Nat) {d : Nat} {s : az_S} {l : List Int} {c : Nat}, 4 + n ≤ d → s 35 = S → zgd S 1 f 9999 (s 39) → zLm s l → l.length + (zgt (zhg S f) n c).length ≤ 16 → c < 6 → zgH (zhg S f) n c → az_R d am_m_X10_hanging 0 (az_ini (am_mL am_m_X10_hanging) [az_r 34, az_i ((c : Nat) : Int), az_i ((f : Nat) : Int)]) [] s (fun o t => o = .inl none ∧ zLm t (l ++ zgt (zhg S f) n c) ∧ zFM s t)
  | 0, _, _, _, _, _, _, _, _, _, hc, hH => (zgH_0 hc hH).elim
  | n + 1, _, _, _, _, hd, hS, hD, hl, h16, hc, hH => zs_X10_hanging_st (Nat.zero_le _) hS hI hh (by omega) (fun {d s l c} a1 a2 a3 a4 a5 a6 a7 => zhn_all hI hh hf h0 n a1 a2 a3 a4 a5 a6 a7) hf hD h0 hl h16 hc hH
set_option maxRecDepth 100000 in
set_option maxHeartbeats 800000 in
theorem zs_X10_show {d : Nat} {s : az_S} (hd : 12 ≤ d) {S : zR} {h : Nat} (hS : s 35 = S) (hI : zInv S h) (hh : h ≤ 10000) {zf0 : Int} (h_zf0 : az_in zf0) (h0 : ∀ m f, f < 6 → ∃ E, zgd S m f 1000 E) : az_R d am_m_X10_show 0 (az_ini (am_mL am_m_X10_show) [az_r 34, az_i (zf0)]) [] (s) (fun o t => o = .inl (some (az_i (if (zq_show S zf0).1 = 0 then (zq_show S zf0).2 else 0))) ∧ t 34 6 = (zq_show S zf0).1 ∧ ((zq_show S zf0).1 = 0 → zLm t (zsh S zf0.toNat)) ∧ (∀ j, j ≠ 6 → j ≠ 14 → t 34 j = s 34 j) ∧ ∀ i, i ≠ 34 → i ≠ 39 → i ≠ 40 → t i = s i) := by
  have hz := zI_h hI hh
  have hs0 : s 35 0 = ((zn S 0 : Nat) : Int) := by rw [hS, hz.2.1.1]
  have hs1 : s 35 1 = ((zn S 1 : Nat) : Int) := by rw [hS, hz.2.1.2.1]
  have hs2 : s 35 2 = ((zn S 2 : Nat) : Int) := by rw [hS, hz.2.1.2.2]
  have hs3 : s 35 3 = S 3 := by rw [hS]
  have hs5 : s 35 5 = S 5 := by rw [hS]
  refine az_to 0 (pc2 := 0) (lv2 := [some (az_r 34), some (az_i (zf0))]) (st2 := []) (s2 := s) rfl ?_
  refine az_to 2 (pc2 := 2) (lv2 := [some (az_r 34), some (az_i (zf0))]) (st2 := [az_i (zf0), az_r 34]) (s2 := s) rfl ?_
  refine az_clv (v := some (az_i (az_b (0 ≤ zf0 ∧ zf0 ≤ 5)))) (t := s) (m2 := am_m_X10_isLand) (as := [az_i (zf0)]) (rest := [az_r 34]) 5 rfl rfl ⟨rfl, rfl⟩ (by omega) (zs_X10_isLand (s := s) (z := zf0) (by omega) (by first | assumption | exact ⟨by omega, by omega⟩)) ?_
  refine az_to 0 (pc2 := 5) (lv2 := [some (az_r 34), some (az_i (zf0))]) (st2 := [az_i (az_b (0 ≤ zf0 ∧ zf0 ≤ 5)), az_r 34]) (s2 := s) rfl ?_
  refine az_ifbn 12 8 rfl (by decide) (fun h1 => ?_) (fun h1 => ?_)
  · have h1 : 0 ≤ zf0 ∧ zf0 ≤ 5 := h1
    obtain ⟨f, rfl⟩ : ∃ n0 : Nat, zf0 = n0 := ⟨zf0.toNat, by omega⟩
    refine az_to 0 (pc2 := 12) (lv2 := [some (az_r 34), some (az_i (((f : Nat) : Int)))]) (st2 := [az_r 34]) (s2 := s) (rfl) ?_
    refine az_to 2 (pc2 := 14) (lv2 := [some (az_r 34), some (az_i (((f : Nat) : Int)))]) (st2 := [az_i (1), az_i (0), az_r 34]) (s2 := s) rfl ?_
    refine az_clv (v := some (az_i (0))) (t := am_up s 34 6 (0)) (m2 := am_m_X10_isThrown) (as := [az_r 34, az_i (0), az_i (1)]) (rest := []) 17 rfl rfl ⟨rfl, rfl⟩ (by omega) (zs_X10_isThrown_f (s := s) (v := 1) (by omega) ) ?_
    refine az_to 0 (pc2 := 17) (lv2 := [some (az_r 34), some (az_i (((f : Nat) : Int)))]) (st2 := [az_i (0)]) (s2 := am_up s 34 6 (0)) rfl ?_
    refine az_ifc 22 20 rfl (by decide) ⟨by decide, by decide⟩ (fun _ => ?_) (fun h => absurd (show az_cnd _ _ _ by unfold az_cnd; decide) h)
    refine az_to 6 (pc2 := 30) (lv2 := [some (az_r 34), some (az_i (((f : Nat) : Int)))]) (st2 := [az_i (1), az_i (((f : Nat) : Int)), az_r 34]) (s2 := am_up (am_up s 34 6 (0)) 34 14 (0)) rfl ?_
    refine az_cl (m2 := am_m_X10_goesFrom) (as := [az_r 34, az_i (((f : Nat) : Int)), az_i (1)]) (rest := []) 33 rfl rfl ⟨rfl, rfl⟩ (by omega) (zs_X10_goesFrom_1 (s := am_up (am_up s 34 6 (0)) 34 14 (0)) (f := f) (by omega) hS hI hh (by omega)) (fun v2 t2 q2 => ?_) (fun E t2 q2 => by cases q2.1)
    obtain ⟨o2, ff2, gg2⟩ := q2
    cases o2
    refine az_to 0 (pc2 := 33) (lv2 := [some (az_r 34), some (az_i (((f : Nat) : Int)))]) (st2 := []) (s2 := t2) rfl ?_
    have hm0 := (zLm_0 (am_up s 34 6 (0))).1
    have hF0 := (zLm_0 (am_up s 34 6 (0))).2
    have hS9 : t2 35 = S := by rw [gg2 35 (by decide)]; exact hS
    have hD9 := ff2
    have hl9 : zLm t2 [] := ⟨by rw [gg2 34 (by decide)]; exact hm0.1, fun i hi => absurd hi (by simp)⟩
    refine az_to 3 (pc2 := 36) (lv2 := [some (az_r 34), some (az_i (((f : Nat) : Int)))]) (st2 := [az_i (((f : Nat) : Int)), az_i (((f : Nat) : Int)), az_r 34]) (s2 := t2) rfl ?_
    refine az_cl (m2 := am_m_X10_hanging) (as := [az_r 34, az_i (((f : Nat) : Int)), az_i (((f : Nat) : Int))]) (rest := []) 39 rfl rfl ⟨rfl, rfl⟩ (by omega) (zhn_all hI hh (f := f) (by omega) (h0 1 f (by omega)) 6 (s := t2) (c := f) (by omega) hS9 hD9 hl9 (by have := zsh_16 hI hh (f := f) (by omega); simpa [zsh] using this) (by omega) (zgH_6 (zhg_P hI hh (f := f)) (by omega))) (fun v3 t3 q3 => ?_) (fun E t3 q3 => by cases q3.1)
    obtain ⟨o3, hl3, hf3⟩ := q3
    cases o3
    refine az_to 0 (pc2 := 39) (lv2 := [some (az_r 34), some (az_i (((f : Nat) : Int)))]) (st2 := []) (s2 := t3) rfl ?_
    refine az_to 2 (pc2 := 43) (lv2 := [some (az_r 34), some (az_i (((f : Nat) : Int)))]) (st2 := [az_i (t3 34 14)]) (s2 := t3) rfl ?_
    refine az_to 0 (pc2 := 43) (lv2 := [some (az_r 34), some (az_i (((f : Nat) : Int)))]) (st2 := [az_i (((([] ++ zgt (zhg S f) 6 f).length : Nat) : Int))]) (s2 := t3) (by rw [show t3 34 14 = _ from hl3.1]; rfl) ?_
    refine az_retI rfl rfl ?_
    have e : zq_show S ((f : Nat) : Int) = (0, ((zsh S f).length : Int)) := by unfold zq_show; rw [if_neg (by omega)]; rfl
    rw [e]
    exact ⟨rfl, by rw [hf3.2 6 (by decide), gg2 34 (by decide)]; rfl, fun _ => hl3, fun j0 h1 h2 => by rw [hf3.2 j0 h2, gg2 34 (by decide)]; simp [am_up, h1, h2], fun i h1 h2 h3 => by rw [hf3.1 i h1 h3, gg2 i h2]; funext b; simp [am_up, h1]⟩
  · have h1 : ¬ (0 ≤ zf0 ∧ zf0 ≤ 5) := h1
    refine az_to 3 (pc2 := 14) (lv2 := [some (az_r 34), some (az_i (zf0))]) (st2 := [az_i (1), az_i (1), az_r 34]) (s2 := s) rfl ?_
    refine az_clv (v := some (az_i (1))) (t := am_up s 34 6 (1)) (m2 := am_m_X10_isThrown) (as := [az_r 34, az_i (1), az_i (1)]) (rest := []) 17 rfl rfl ⟨rfl, rfl⟩ (by omega) (zs_X10_isThrown_t (s := s) (v := 1) (by omega) ) ?_
    refine az_to 0 (pc2 := 17) (lv2 := [some (az_r 34), some (az_i (zf0))]) (st2 := [az_i (1)]) (s2 := am_up s 34 6 (1)) rfl ?_
    refine az_ifc 22 20 rfl (by decide) ⟨by decide, by decide⟩ (fun h => absurd h (by unfold az_cnd; decide)) (fun _ => ?_)
    refine az_to 1 (pc2 := 21) (lv2 := [some (az_r 34), some (az_i (zf0))]) (st2 := [az_i (0)]) (s2 := am_up s 34 6 (1)) rfl ?_
    refine az_retI rfl rfl ?_
    have e : zq_show S zf0 = (1, 0) := by unfold zq_show; rw [if_pos (by assumption)]
    rw [e]
    exact ⟨rfl, rfl, fun h => absurd (show (1 : Nat) = 0 from h) (by decide), fun j h1 h2 => by simp [am_up, h1], fun i h1 h2 h3 => by funext b; simp [am_up, h1]⟩
