/-! EVERY CALL KEEPS THE STATE AND ANSWERS ALIKE, 3: read -/
theorem zms_hi {T : Nat → Int} : ∀ (F : List Char) (i : Nat), (zms T F i).1 ≤ i + 2 * F.length
  | [], i => Nat.le_refl _
  | w :: F, i => by
    unfold zms
    split
    · have h := zms_hi (T := T) F (i + zwd T w.toNat i)
      have h2 := zwd_r T w.toNat i
      rw [List.length_cons]
      dsimp only
      omega
    · rw [List.length_cons]
      dsimp only
      omega
theorem zF_14 : ∀ k, k < 13 → (zF k).length ≤ 14 := by decide
theorem zer_28 {T : Nat → Int} {i : Nat} : ∀ k, k ≤ 13 → ((i : Nat) : Int) ≤ zer T i k ∧ zer T i k ≤ ((i + 28 : Nat) : Int)
  | 0, _ => by unfold zer; omega
  | k + 1, hk => by
    have h := zer_28 (T := T) (i := i) k (by omega)
    have h2 := zms_hi (T := T) (zF k) i
    have h3 := zF_14 k (by omega)
    unfold zer
    split <;> omega
theorem zpr_e {s : az_S} {T : Nat → Int} {n : Nat} (hT : zTx s n T) : ∀ (m i : Nat), i ≤ n → 0 ≤ (zpr T n m i).2.2 ∧ (zpr T n m i).2.2 ≤ 1000
  | 0, i, hi => by
    have := hT.2.1
    show 0 ≤ ((i : Nat) : Int) ∧ ((i : Nat) : Int) ≤ 1000
    omega
  | m + 1, i, hi => by
    have h60 := hT.2.1
    unfold zpr
    by_cases q1 : ¬ 0 ≤ zfk T i
    · rw [if_pos q1]
      have := zer_28 (T := T) (i := i) 13 (by decide)
      dsimp only
      omega
    · rw [if_neg q1]
      have h1 := zfk_r (T := T) (i := i)
      have h2 := zfk_ok (T := T) (i := i) (by omega)
      have h3 := zms_n hT _ i (zF_p (zfk T i).toNat (by omega)) hi h2.1
      by_cases q2 : (zms T (zF (zfk T i).toNat) i).1 = n
      · rw [if_pos q2]
        exact ⟨(by decide : (0 : Int) ≤ 0), (by decide : (0 : Int) ≤ 1000)⟩
      · rw [if_neg q2]
        by_cases q3 : T (zms T (zF (zfk T i).toNat) i).1 = 59
        · rw [if_pos q3]
          exact zpr_e hT m _ (by omega)
        · rw [if_neg q3]
          dsimp only
          omega
theorem zrn_ok : ∀ (L : List (Nat × List Int)) (S : zR) (c h : Nat), (∀ x, x ∈ L → zgc x.1 x.2) → zInv S h → zJ S → h + L.length ≤ 10000 → zInv (zrn S c L).2.2.2.2 (h + L.length) ∧ zJ (zrn S c L).2.2.2.2
  | [], S, c, h, _, hI, hJ, _ => ⟨hI, hJ⟩
  | x :: L, S, c, h, hg, hI, hJ, hh => by
    rw [List.length_cons] at hh ⊢
    have h1 := hg x (List.mem_cons_self ..)
    have hI2 := zIv_cm hI (by omega) h1.1 x.2
    have hJ2 := zJ_cm hI hJ h1.1 x.2
    unfold zrn
    split
    · have := zrn_ok L _ (c + 1) (h + 1) (fun y hy => hg y (List.mem_cons_of_mem _ hy)) hI2 hJ2 (by omega)
      exact ⟨zI_up this.1 (by omega), this.2⟩
    · exact ⟨zI_up hI2 (by omega), hJ2⟩
theorem zrn_kr : ∀ (L : List (Nat × List Int)) (S : zR) (c : Nat), (∀ x, x ∈ L → zgc x.1 x.2) → zkr (zrn S c L).2
  | [], S, c, _ => ⟨Nat.zero_le _, fun w => absurd (show (0 : Nat) = 3 from w) (by decide)⟩
  | x :: L, S, c, hg => by
    unfold zrn
    split
    · exact zrn_kr L _ _ (fun y hy => hg y (List.mem_cons_of_mem _ hy))
    · exact zkr_cm S x.1 x.2
theorem zc_read {s : az_S} {h : Nat} (H : zyS s h) (hh : h + 10 ≤ 10000) : zCs am_m_X9_read am_m_X10_read [] [1, 4] s h := by
  have hI := H.1.2.1
  obtain ⟨hW, ⟨p, c, hP⟩, hN, ⟨h60, n, T, hT, hY⟩, hE, hF, hL⟩ := H
  have hn := hT.2.1
  refine az_wk (az_deep (zs_X9_read (d := 9) (by decide) hW.1 hI (by omega) hT hh hP.2.2.1 hP.1 hP.2.2.2.1 hP.2.1) (by decide)) (fun o t q9 => ?_)
  obtain ⟨qa, qb⟩ := q9
  cases ok : (zpr T n 11 0).2.1 with
  | false =>
    obtain ⟨rfl, c10, c0, c22, c21, cf⟩ := qa ok
    clear qa qb
    refine az_wk (az_deep (zs_X10_read (d := 9) (by decide) (S := s 35) (cf 35 (by decide) (by decide) (by decide) (by decide) (by decide)) hI (by omega) (n := n) (T := T) (by unfold zTy; rw [cf 34 (by decide) (by decide) (by decide) (by decide) (by decide), cf 41 (by decide) (by decide) (by decide) (by decide) (by decide)]; exact hY) hh (c := c) (by rw [cf 34 (by decide) (by decide) (by decide) (by decide) (by decide)]; exact hP.2.2.2.2.1) hP.2.1) (by decide)) (fun o2 t2 q9 => ?_)
    obtain ⟨rfl, d6, d11, d17, d4, df⟩ := q9.1 ok
    clear q9
    have g : ∀ i, i = 3 ∨ i = 17 ∨ i = 19 ∨ i = 21 ∨ i = 24 ∨ i = 30 ∨ i = 32 ∨ i = 33 ∨ i = 35 ∨ i = 37 ∨ i = 38 ∨ i = 40 ∨ i = 41 → t2 i = s i := fun i hi => by rw [df i (by omega) (by omega), cf i (by omega) (by omega) (by omega) (by omega) (by omega)]
    have g4 : ∀ j, j ≠ 6 → j ≠ 11 → j ≠ 17 → j ≠ 18 → j ≠ 19 → j ≠ 20 → t2 34 j = s 34 j := fun j a b c d e f => by rw [d4 j a b c d e f, cf 34 (by decide) (by decide) (by decide) (by decide) (by decide)]
    have t0 : t2 0 = t 0 := df 0 (by decide) (by decide)
    have t22 : t2 22 = t 22 := df 22 (by decide) (by decide)
    have he := zpr_e hT 11 0 (by omega)
    refine ⟨Or.inr ⟨0, 1, 0, rfl, rfl, rfl, d6⟩, ?_, ⟨p, c, zyP_c hP (by omega) (by rw [g 17 (by decide)]) (by rw [g 17 (by decide)]) (g4 5 (by decide) (by decide) (by decide) (by decide) (by decide) (by decide)) (g 19 (by decide)) (g 38 (by decide))⟩, zyN_c hN (by omega) (by rw [t0]; exact c0 5 (by decide)) (g4 12 (by decide) (by decide) (by decide) (by decide) (by decide) (by decide)) (g 21 (by decide)) (g 37 (by decide)), ⟨by rw [t22, c21]; exact h60, 0, fun _ => 0, ⟨by rw [t22]; exact c22, by decide, fun k hk => absurd hk (by omega), fun k _ => rfl, fun k => ⟨(by decide : (0 : Int) ≤ 0), (by decide : (0 : Int) < 65536)⟩⟩, ⟨d17, by decide, fun k hk => absurd hk (by omega), fun k _ => rfl, fun k => ⟨(by decide : (0 : Int) ≤ 0), (by decide : (0 : Int) < 65536)⟩⟩⟩, ⟨by rw [t0, c10, d11], by rw [t0, c10]; omega, by rw [t0, c10]; omega⟩, zyF_c hF (g 33 (by decide)) (g4 7 (by decide) (by decide) (by decide) (by decide) (by decide) (by decide)) (g4 8 (by decide) (by decide) (by decide) (by decide) (by decide) (by decide)) (g4 9 (by decide) (by decide) (by decide) (by decide) (by decide) (by decide)) (g4 10 (by decide) (by decide) (by decide) (by decide) (by decide) (by decide)), zyL_c hL (by rw [g 30 (by decide)]) (by rw [g 30 (by decide)]) (g 32 (by decide)) (g4 14 (by decide) (by decide) (by decide) (by decide) (by decide) (by decide)) (g 40 (by decide))⟩
    unfold zyW
    rw [g 3 (by decide), g 35 (by decide)]
    exact zrr_up hW (by omega)
  | true =>
    obtain ⟨w, w19, w2, w1, wf, D1, D2, D3⟩ := qb ok
    clear qa qb
    have cf : ∀ i, i ≠ 3 → i ≠ 5 → i ≠ 17 → i ≠ 19 → i ≠ 22 → i ≠ 25 → i ≠ 27 → i ≠ 29 → i ≠ 33 → t i = s i := fun i q1 q2 q3 q4 q5 q6 q7 q8 q9 => by rw [D3 i q1 q2 q3 q9, wf i q4 q5 q6 q7 q8]
    have c34 : t 34 = s 34 := cf 34 (by decide) (by decide) (by decide) (by decide) (by decide) (by decide) (by decide) (by decide) (by decide)
    have c35 : t 35 = s 35 := cf 35 (by decide) (by decide) (by decide) (by decide) (by decide) (by decide) (by decide) (by decide) (by decide)
    have c38 : t 38 = s 38 := cf 38 (by decide) (by decide) (by decide) (by decide) (by decide) (by decide) (by decide) (by decide) (by decide)
    have c41 : t 41 = s 41 := cf 41 (by decide) (by decide) (by decide) (by decide) (by decide) (by decide) (by decide) (by decide) (by decide)
    refine az_wk (az_deep (zs_X10_read (d := 9) (by decide) (S := s 35) c35 hI (by omega) (n := n) (T := T) (by unfold zTy; rw [c34, c41]; exact hY) hh (c := c) (by rw [c34]; exact hP.2.2.2.2.1) hP.2.1) (by decide)) (fun o2 t2 q9 => ?_)
    obtain ⟨v, v36, v17, v4, vf, E1, E2, E3⟩ := q9.2 ok
    clear q9
    have hg := fun x hx => zpr_g (T := T) (n := n) 11 0 x hx
    have hl := zpr_n hT 11 0 (by omega) ok
    have hr := zrn_ok (zpr T n 11 0).1 (s 35) 0 h hg hI hW.2.2 (by omega)
    have hk := zrn_kr (zpr T n 11 0).1 (s 35) 0 hg
    generalize zrn (s 35) 0 (zpr T n 11 0).1 = r at *
    have u17 : w 17 = s 17 := wf 17 (by decide) (by decide) (by decide) (by decide) (by decide)
    have u33 : w 33 = s 33 := wf 33 (by decide) (by decide) (by decide) (by decide) (by decide)
    have w38 : v 38 = s 38 := by rw [vf 38 (by decide) (by decide) (by decide), c38]
    have t19 : t 19 = va_cpy (s 3) (s 19) 0 (p * 184) 184 := by rw [D3 19 (by decide) (by decide) (by decide) (by decide), w19]
    have g : ∀ i, i = 0 ∨ i = 21 ∨ i = 24 ∨ i = 30 ∨ i = 32 ∨ i = 37 ∨ i = 40 ∨ i = 41 → t2 i = s i := fun i hi => by rw [E3 i (by omega) (by omega) (by omega), vf i (by omega) (by omega) (by omega), cf i (by omega) (by omega) (by omega) (by omega) (by omega) (by omega) (by omega) (by omega) (by omega)]
    have gv : ∀ i, i = 3 ∨ i = 17 ∨ i = 19 ∨ i = 22 ∨ i = 33 → t2 i = t i := fun i hi => by rw [E3 i (by omega) (by omega) (by omega), vf i (by omega) (by omega) (by omega)]
    have t22 : t 22 = w 22 := D3 22 (by decide) (by decide) (by decide) (by decide)
    have v4s : ∀ j, j ≠ 6 → j ≠ 17 → j ≠ 18 → j ≠ 19 → j ≠ 20 → v 34 j = s 34 j := fun j a b c d e => by rw [v4 j a b c d e, c34]
    have hT9 : t2 34 17 = 0 → zyT t2 := fun e17 => ⟨by rw [gv 22 (by decide), t22, w1]; exact h60, 0, fun _ => 0, ⟨by rw [gv 22 (by decide), t22]; exact w2, by decide, fun k hk => absurd hk (by omega), fun k _ => rfl, fun k => ⟨(by decide : (0 : Int) ≤ 0), (by decide : (0 : Int) < 65536)⟩⟩, ⟨e17, by decide, fun k hk => absurd hk (by omega), fun k _ => rfl, fun k => ⟨(by decide : (0 : Int) ≤ 0), (by decide : (0 : Int) < 65536)⟩⟩⟩
    by_cases q : r.2.1 = 0
    · obtain ⟨rfl, d3, d1, d2, d33⟩ := D1 q
      obtain ⟨rfl, e35, e6, e5, e38, e4⟩ := E1 q
      have g4 : ∀ j, j ≠ 5 → j ≠ 6 → j ≠ 17 → j ≠ 18 → j ≠ 19 → j ≠ 20 → t2 34 j = s 34 j := fun j j5 j6 a b c d => by rw [e4 j j5 j6, v4s j j6 a b c d]
      refine ⟨Or.inl ⟨_, rfl, rfl, e6⟩, ?_, ⟨_, _, zyP_ch hP hW (h2 := h + 10) (by omega) (by rw [gv 17 (by decide)]; exact d1) (by rw [gv 17 (by decide)]; exact d2) e5 (by rw [gv 19 (by decide)]; exact t19) (by rw [e38, w38, v36, c35, zpast_w])⟩, zyN_c hN (by omega) (by rw [g 0 (by decide)]) (g4 12 (by decide) (by decide) (by decide) (by decide) (by decide) (by decide)) (g 21 (by decide)) (g 37 (by decide)), hT9 (by rw [e4 17 (by decide) (by decide)]; exact v17), zyE_c hE (by rw [g 0 (by decide)]) (g4 11 (by decide) (by decide) (by decide) (by decide) (by decide) (by decide)), zyF_c hF (by rw [gv 33 (by decide), d33, u33]) (g4 7 (by decide) (by decide) (by decide) (by decide) (by decide) (by decide)) (g4 8 (by decide) (by decide) (by decide) (by decide) (by decide) (by decide)) (g4 9 (by decide) (by decide) (by decide) (by decide) (by decide) (by decide)) (g4 10 (by decide) (by decide) (by decide) (by decide) (by decide) (by decide)), zyL_c hL (by rw [g 30 (by decide)]) (by rw [g 30 (by decide)]) (g 32 (by decide)) (g4 14 (by decide) (by decide) (by decide) (by decide) (by decide) (by decide)) (g 40 (by decide))⟩
      unfold zyW
      rw [gv 3 (by decide), e35]
      exact ⟨d3, zI_up hr.1 (by omega), hr.2⟩
    · obtain ⟨rfl, ⟨X, d3⟩, d17, d0, d1, d2, d9⟩ := D2 q
      obtain ⟨rfl, e6, ⟨Y, e35⟩, e5, e38, e7, e8, e9, e10, e4⟩ := E2 q
      have g4 : ∀ j, j ≠ 6 → j ≠ 7 → j ≠ 8 → j ≠ 9 → j ≠ 10 → j ≠ 17 → j ≠ 18 → j ≠ 19 → j ≠ 20 → t2 34 j = s 34 j := fun j j6 j7 j8 j9 j0 a b c d => by rw [e4 j j6 j7 j8 j9 j0, v4s j j6 a b c d]
      refine ⟨Or.inr ⟨1, 4, 0, rfl, rfl, rfl, e6⟩, ?_, ⟨p, c, zyP_no hP (h2 := h + 10) (by omega) (by rw [gv 17 (by decide), d17, u17]) (by rw [gv 17 (by decide), d17, u17]) (by rw [e5, v4s 5 (by decide) (by decide) (by decide) (by decide) (by decide)]) (by rw [gv 19 (by decide)]; exact t19) (by rw [e38, w38])⟩, zyN_c hN (by omega) (by rw [g 0 (by decide)]) (g4 12 (by decide) (by decide) (by decide) (by decide) (by decide) (by decide) (by decide) (by decide) (by decide)) (g 21 (by decide)) (g 37 (by decide)), hT9 (by rw [e4 17 (by decide) (by decide) (by decide) (by decide) (by decide)]; exact v17), zyE_c hE (by rw [g 0 (by decide)]) (g4 11 (by decide) (by decide) (by decide) (by decide) (by decide) (by decide) (by decide) (by decide) (by decide)), ?_, zyL_c hL (by rw [g 30 (by decide)]) (by rw [g 30 (by decide)]) (g 32 (by decide)) (g4 14 (by decide) (by decide) (by decide) (by decide) (by decide) (by decide) (by decide) (by decide) (by decide)) (g 40 (by decide))⟩
      · unfold zyW
        rw [gv 3 (by decide), e35, d3, w19, v36, c35]
        refine zrr_c (zrr_up hW (h2 := h + 10) (by omega)) (fun j hj => ?_) (fun j hj => ?_)
        · unfold va_cpy
          rw [if_pos (by omega), if_pos (by omega)]
          congr 1
          omega
        · unfold va_cpy
          rw [if_pos (by omega), if_pos (by omega)]
          congr 1
          omega
      · unfold zyF
        rw [gv 33 (by decide), d0, d1, d2, d9, e7, e8, e9]
        refine ⟨rfl, rfl, rfl, fun w9 => ?_, by decide, by decide, ?_, ?_⟩
        · by_cases q3 : r.2.1 = 3
          · rw [if_pos q3]; exact (e10 q3).symm
          · rw [if_neg q3] at w9; exact absurd rfl w9
        · split
          · have := hk.2 (by assumption); omega
          · decide
        · split
          · have := hk.2 (by assumption); omega
          · decide
