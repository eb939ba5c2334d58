/-! EVERY CALL KEEPS THE STATE AND ANSWERS ALIKE, 2 -/
theorem zFm_k {t : az_S} (k : Nat) {v : Int} (hv : v = ((k : Nat) : Int)) : zFm t (am_up t 34 6 v) k := ⟨by rw [← hv]; rfl, fun j hj => by simp [am_up, hj], fun i h1 _ => by funext b; simp [am_up, h1]⟩
theorem zq_ac_1 (S : zR) (n c : Nat) (w : Int) : (zq_ac S n c w).1 ≤ 1 := by
  unfold zq_ac
  by_cases q : ¬ (0 ≤ w ∧ w ≤ 14)
  · rw [if_pos q]
    exact Nat.le_refl 1
  · rw [if_neg q]
    exact Nat.zero_le 1
theorem zc_account {s : az_S} {h : Nat} (H : zyS s h) (hh : h + 10 ≤ 10000) {a : Int} (ha : az_in a) : zCs am_m_X9_account am_m_X10_account [az_i a] [1] s h := by
  have hI := H.1.2.1
  obtain ⟨p, c, hP⟩ := H.2.1
  obtain ⟨h60, n, T, hT, hY⟩ := H.2.2.2.1
  refine az_wk (az_deep (zs_X9_account (d := 7) (by decide) H.1.1 hI (by omega) ha H.1.2.2 (n := n) (c := c) hT.1 hP.2.2.2.1) (by decide)) (fun o t q => ?_)
  obtain ⟨rfl, hq⟩ := q
  have e34 : t 34 = s 34 := hq 34 (by decide) (by decide) (by decide) (by decide) (by decide)
  refine az_wk (az_deep (zs_X10_account (d := 7) (by decide) (hq 35 (by decide) (by decide) (by decide) (by decide) (by decide)) hI (by omega) ha (n := n) (c := c) (by rw [e34]; exact hY.1) (by rw [e34]; exact hP.2.2.2.2.1)) (by decide)) (fun o2 t2 q => ?_)
  obtain ⟨rfl, hm⟩ := q
  refine ⟨?_, zyS_q H hq hm⟩
  rw [hm.1]
  exact zMt_q (zq_ac_1 _ _ _ _)
theorem zc_errorPosition {s : az_S} {h : Nat} (H : zyS s h) (hh : h + 10 ≤ 10000) : zCs am_m_X9_errorPosition am_m_X10_errorPosition [] [5] s h := by
  obtain ⟨e1, e2, e3⟩ := H.2.2.2.2.1
  refine az_wk (az_deep (zs_X9_errorPosition (d := 2) (by decide) ⟨by omega, by omega⟩) (by decide)) (fun o t q => ?_)
  obtain ⟨rfl, rfl⟩ := q
  refine az_wk (az_deep (zs_X10_errorPosition (d := 2) (by decide) ⟨by omega, by omega⟩) (by decide)) (fun o2 t2 q => ?_)
  obtain ⟨rfl, hm⟩ := q
  refine ⟨?_, zyS_q H (zFq_r _) hm⟩
  have e : (if t 0 10 = -1 then ((1, 0) : Nat × Int) else (0, t 0 10)) = (if t 0 10 < 0 then (1, 0) else (0, t 0 10)) := by
    by_cases q : t 0 10 = -1
    · rw [if_pos q, if_pos (by omega)]
    · rw [if_neg q, if_neg (by omega)]
  rw [hm.1, ← e1, e]
  exact zMt_q (es := [5]) (by split; exact (show (1 : Nat) ≤ 1 from by decide); exact (show (0 : Nat) ≤ 1 from by decide))
theorem zc_refusal_11 {s : az_S} {h : Nat} (H : zyS s h) (hh : h + 10 ≤ 10000) : zCs am_m_X9_refusal am_m_X10_refusal [az_i 1, az_i 1] [5] s h := by
  obtain ⟨e0, e1, e2, e3, b1, b2, b3, b4⟩ := H.2.2.2.2.2.1
  refine az_wk (az_deep (zs_X9_refusal_11 (d := 2) (by decide) ⟨by omega, by omega⟩ ⟨by omega, by omega⟩) (by decide)) (fun o t q => ?_)
  obtain ⟨rfl, rfl⟩ := q
  refine az_wk (az_deep (zs_X10_refusal_11 (d := 2) (by decide) ⟨by omega, by omega⟩ ⟨by omega, by omega⟩) (by decide)) (fun o2 t2 q => ?_)
  obtain ⟨rfl, hm⟩ := q
  refine ⟨?_, zyS_q H (zFq_r _) hm⟩
  have e : zq_rf (t 33 2) (t 33 3) True = zq_rf (t 34 9) (t 34 10) True := by
    unfold zq_rf
    rw [← e2]
    by_cases q : t 33 2 = 0
    · rw [if_pos q, if_pos q]
    · rw [if_neg q, if_neg q, e3 q]
  rw [hm.1, e]
  exact zMt_q (by unfold zq_rf; repeat (first | exact (show (0 : Nat) ≤ 1 from by decide) | exact (show (1 : Nat) ≤ 1 from by decide) | split))
theorem zc_refusal_10 {s : az_S} {h : Nat} (H : zyS s h) (hh : h + 10 ≤ 10000) : zCs am_m_X9_refusal am_m_X10_refusal [az_i 1, az_i 0] [5] s h := by
  obtain ⟨e0, e1, e2, e3, b1, b2, b3, b4⟩ := H.2.2.2.2.2.1
  refine az_wk (az_deep (zs_X9_refusal_10 (d := 2) (by decide) ⟨by omega, by omega⟩ ⟨by omega, by omega⟩) (by decide)) (fun o t q => ?_)
  obtain ⟨rfl, rfl⟩ := q
  refine az_wk (az_deep (zs_X10_refusal_10 (d := 2) (by decide) ⟨by omega, by omega⟩ ⟨by omega, by omega⟩) (by decide)) (fun o2 t2 q => ?_)
  obtain ⟨rfl, hm⟩ := q
  refine ⟨?_, zyS_q H (zFq_r _) hm⟩
  have e : zq_rf (t 33 2) (t 33 3) False = zq_rf (t 34 9) (t 34 10) False := by
    unfold zq_rf
    rw [← e2]
    by_cases q : t 33 2 = 0
    · rw [if_pos q, if_pos q]
    · rw [if_neg q, if_neg q, e3 q]
  rw [hm.1, e]
  exact zMt_q (by unfold zq_rf; repeat (first | exact (show (0 : Nat) ≤ 1 from by decide) | exact (show (1 : Nat) ≤ 1 from by decide) | split))
theorem zc_refusal_01 {s : az_S} {h : Nat} (H : zyS s h) (hh : h + 10 ≤ 10000) : zCs am_m_X9_refusal am_m_X10_refusal [az_i 0, az_i 1] [5] s h := by
  obtain ⟨e0, e1, e2, e3, b1, b2, b3, b4⟩ := H.2.2.2.2.2.1
  refine az_wk (az_deep (zs_X9_refusal_01 (d := 2) (by decide) ⟨by omega, by omega⟩ ⟨by omega, by omega⟩) (by decide)) (fun o t q => ?_)
  obtain ⟨rfl, rfl⟩ := q
  refine az_wk (az_deep (zs_X10_refusal_01 (d := 2) (by decide) ⟨by omega, by omega⟩ ⟨by omega, by omega⟩) (by decide)) (fun o2 t2 q => ?_)
  obtain ⟨rfl, hm⟩ := q
  refine ⟨?_, zyS_q H (zFq_r _) hm⟩
  have e : zq_rf (t 33 0) (t 33 1) True = zq_rf (t 34 7) (t 34 8) True := by
    unfold zq_rf
    rw [← e0]
    by_cases q : t 33 0 = 0
    · rw [if_pos q, if_pos q]
    · rw [if_neg q, if_neg q, e1]
  rw [hm.1, e]
  exact zMt_q (by unfold zq_rf; repeat (first | exact (show (0 : Nat) ≤ 1 from by decide) | exact (show (1 : Nat) ≤ 1 from by decide) | split))
theorem zc_refusal_00 {s : az_S} {h : Nat} (H : zyS s h) (hh : h + 10 ≤ 10000) : zCs am_m_X9_refusal am_m_X10_refusal [az_i 0, az_i 0] [5] s h := by
  obtain ⟨e0, e1, e2, e3, b1, b2, b3, b4⟩ := H.2.2.2.2.2.1
  refine az_wk (az_deep (zs_X9_refusal_00 (d := 2) (by decide) ⟨by omega, by omega⟩ ⟨by omega, by omega⟩) (by decide)) (fun o t q => ?_)
  obtain ⟨rfl, rfl⟩ := q
  refine az_wk (az_deep (zs_X10_refusal_00 (d := 2) (by decide) ⟨by omega, by omega⟩ ⟨by omega, by omega⟩) (by decide)) (fun o2 t2 q => ?_)
  obtain ⟨rfl, hm⟩ := q
  refine ⟨?_, zyS_q H (zFq_r _) hm⟩
  have e : zq_rf (t 33 0) (t 33 1) False = zq_rf (t 34 7) (t 34 8) False := by
    unfold zq_rf
    rw [← e0]
    by_cases q : t 33 0 = 0
    · rw [if_pos q, if_pos q]
    · rw [if_neg q, if_neg q, e1]
  rw [hm.1, e]
  exact zMt_q (by unfold zq_rf; repeat (first | exact (show (0 : Nat) ≤ 1 from by decide) | exact (show (1 : Nat) ≤ 1 from by decide) | split))
theorem zc_written {s : az_S} {h : Nat} (H : zyS s h) (hh : h + 10 ≤ 10000) {a : Int} (ha : az_in a) : zCs am_m_X9_written am_m_X10_written [az_i a] [5] s h := by
  obtain ⟨e1, l, hn, hm, h16, hr⟩ := H.2.2.2.2.2.2
  have r1 : ∀ k, k < l.length → 0 ≤ s 32 k ∧ s 32 k < 65536 := fun k hk => hr _ (List.mem_of_getElem? (hn.2.2 k hk))
  have r2 : ∀ k, k < l.length → 0 ≤ s 40 k ∧ s 40 k < 65536 := fun k hk => hr _ (List.mem_of_getElem? (hm.2 k hk))
  refine az_wk (az_deep (zs_X9_written (d := 3) (by decide) hn ha h16 r1) (by decide)) (fun o t q => ?_)
  obtain ⟨rfl, rfl⟩ := q
  refine az_wk (az_deep (zs_X10_written (d := 3) (by decide) hm ha h16 r2) (by decide)) (fun o2 t2 q => ?_)
  obtain ⟨rfl, hq⟩ := q
  refine ⟨?_, zyS_q H (zFq_r _) hq⟩
  rw [hq.1]
  exact zMt_q (by unfold zq_wr; repeat (first | exact (show (0 : Nat) ≤ 1 from by decide) | exact (show (1 : Nat) ≤ 1 from by decide) | split))
/-- a question that writes a line -/
theorem zyS_l {s t t2 : az_S} {h : Nat} (H : zyS s h) {l : List Int} (h1 : zLn t l) (h2 : zLm t2 l) (e30 : t 30 1 = s 30 1) (f1 : ∀ i, i ≠ 8 → i ≠ 10 → i ≠ 12 → i ≠ 14 → i ≠ 16 → i ≠ 30 → i ≠ 32 → t i = s i) (f2 : ∀ j, j ≠ 6 → j ≠ 14 → t2 34 j = t 34 j) (f3 : ∀ i, i ≠ 34 → i ≠ 39 → i ≠ 40 → t2 i = t i) (h16 : l.length ≤ 16) (hr : ∀ v, v ∈ l → 0 ≤ v ∧ v < 65536) : zyS t2 (h + 10) := by
  obtain ⟨hW, ⟨p, c, hP⟩, hN, hT, hE, hF, hL⟩ := H
  have g : ∀ i, i ≠ 8 → i ≠ 10 → i ≠ 12 → i ≠ 14 → i ≠ 16 → i ≠ 30 → i ≠ 32 → i ≠ 34 → i ≠ 39 → i ≠ 40 → t2 i = s i := fun i a b c d e f g h9 h10 h11 => by rw [f3 i h9 h10 h11, f1 i a b c d e f g]
  have g4 : ∀ j, j ≠ 6 → j ≠ 14 → t2 34 j = s 34 j := fun j hj h4 => by rw [f2 j hj h4, f1 34 (by decide) (by decide) (by decide) (by decide) (by decide) (by decide) (by decide)]
  have gg : ∀ i, i = 0 ∨ i = 3 ∨ i = 17 ∨ i = 19 ∨ i = 21 ∨ i = 22 ∨ i = 24 ∨ i = 33 ∨ i = 35 ∨ i = 37 ∨ i = 38 ∨ i = 41 → t2 i = s i := fun i hi => g i (by omega) (by omega) (by omega) (by omega) (by omega) (by omega) (by omega) (by omega) (by omega) (by omega)
  refine ⟨?_, ⟨p, c, zyP_c hP (by omega) (by rw [gg 17 (by decide)]) (by rw [gg 17 (by decide)]) (g4 5 (by decide) (by decide)) (gg 19 (by decide)) (gg 38 (by decide))⟩, ?_, ?_, ?_, ?_, ?_⟩
  · unfold zyW
    rw [gg 3 (by decide), gg 35 (by decide)]
    exact zrr_up hW (by omega)
  · exact zyN_c hN (by omega) (by rw [gg 0 (by decide)]) (g4 12 (by decide) (by decide)) (gg 21 (by decide)) (gg 37 (by decide))
  · exact zyT_c hT (by rw [gg 22 (by decide)]) (by rw [gg 22 (by decide)]) (gg 24 (by decide)) (g4 17 (by decide) (by decide)) (gg 41 (by decide))
  · exact zyE_c hE (by rw [gg 0 (by decide)]) (g4 11 (by decide) (by decide))
  · exact zyF_c hF (gg 33 (by decide)) (g4 7 (by decide) (by decide)) (g4 8 (by decide) (by decide)) (g4 9 (by decide) (by decide)) (g4 10 (by decide) (by decide))
  · refine ⟨?_, l, ?_, h2, h16, hr⟩
    · rw [f3 30 (by decide) (by decide) (by decide), e30]; exact hL.1
    · unfold zLn
      rw [f3 30 (by decide) (by decide) (by decide), f3 32 (by decide) (by decide) (by decide)]
      exact h1
theorem zgx_m {P : Nat → Int} {g : Nat → List Int} {v : Nat} {R : Int → Prop} (h0 : R 32 ∧ R 40) : ∀ k, (∀ i, i < k → ∀ x, x ∈ g i → R x) → ∀ x, x ∈ zgx P g v k → R x
  | 0, _, x, hx => absurd hx (by unfold zgx; simp)
  | k + 1, hg, x, hx => by
    unfold zgx at hx
    rw [List.mem_append] at hx
    rcases hx with hx | hx
    · exact zgx_m h0 k (fun i hi => hg i (by omega)) x hx
    · split at hx
      · rw [List.mem_cons] at hx
        rcases hx with hx | hx
        · rw [hx]
          split
          · exact h0.1
          · exact h0.2
        · exact hg k (by omega) x hx
      · exact absurd hx (by simp)
theorem zgt_m {P : Nat → Int} : ∀ n v, v < 6 → ∀ x, x ∈ zgt P n v → 0 ≤ x ∧ x < 65536
  | 0, _, _, x, hx => absurd hx (by unfold zgt; simp)
  | n + 1, v, hv, x, hx => by
    unfold zgt at hx
    rw [List.mem_cons, List.mem_append] at hx
    rcases hx with hx | hx | hx
    · omega
    · exact zgx_m (R := fun x => 0 ≤ x ∧ x < 65536) ⟨by decide, by decide⟩ 6 (fun i hi => zgt_m n i hi) x hx
    · split at hx
      · rw [List.mem_singleton] at hx
        omega
      · exact absurd hx (by simp)
theorem zq_show_0 {S : zR} {a : Int} : (0 ≤ a ∧ a ≤ 5) ↔ (zq_show S a).1 = 0 := by
  unfold zq_show
  by_cases w : ¬ (0 ≤ a ∧ a ≤ 5)
  · rw [if_pos w]
    exact ⟨fun q => absurd q w, fun q => absurd (show (1 : Nat) = 0 from q) (by decide)⟩
  · rw [if_neg w]
    exact ⟨fun _ => rfl, fun _ => by omega⟩
theorem zq_tell_0 {S : zR} {a : Int} : (0 ≤ a ∧ a < ((zn S 0 : Nat) : Int)) ↔ (zq_tell S a).1 = 0 := by
  unfold zq_tell
  by_cases w : ¬ (0 ≤ a ∧ a < ((zn S 0 : Nat) : Int))
  · rw [if_pos w]
    exact ⟨fun q => absurd q w, fun q => absurd (show (1 : Nat) = 0 from q) (by decide)⟩
  · rw [if_neg w]
    exact ⟨fun _ => rfl, fun _ => by omega⟩
theorem zc_show {s : az_S} {h : Nat} (H : zyS s h) (hh : h + 10 ≤ 10000) {a : Int} (ha : az_in a) : zCs am_m_X9_show am_m_X10_show [az_i a] [3] s h := by
  have hI := H.1.2.1
  have h0 := fun m f hf => zgd_ex H.1.1 hI (by omega) m f hf
  refine az_wk (az_deep (zs_X9_show (d := 12) (by decide) H.1.1 hI (by omega) ha H.2.2.2.2.2.2.1) (by decide)) (fun o t q => ?_)
  obtain ⟨rfl, q1, q2⟩ := q
  by_cases q : 0 ≤ a ∧ a ≤ 5
  · have q0 := (zq_show_0 (S := s 35)).mp q
    obtain ⟨w1, w2, w3, w4⟩ := q1 q0
    refine az_wk (az_deep (zs_X10_show (d := 12) (by decide) (w4 35 (by decide) (by decide) (by decide) (by decide) (by decide) (by decide)) hI (by omega) ha h0) (by decide)) (fun o2 t2 q9 => ?_)
    obtain ⟨rfl, p1, p2, p3, p4⟩ := q9
    refine ⟨?_, zyS_l H w1 (p2 q0) w3 (fun i a b _ d e f g => w4 i a b d e f g) p3 p4 (zsh_16 hI (by omega) (by omega)) (zgt_m 6 _ (by omega))⟩
    rw [p1]
    exact zMt_q (by rw [q0]; decide)
  · have hq : zq_show (s 35) a = (1, 0) := by unfold zq_show; rw [if_pos q]
    have := q2 (by rw [hq]; decide)
    subst this
    refine az_wk (az_deep (zs_X10_show_n (d := 12) (by decide) rfl hI (by omega) ha h0 q) (by decide)) (fun o2 t2 q9 => ?_)
    obtain ⟨rfl, rfl⟩ := q9
    rw [hq]
    exact ⟨zMt_q (es := [3]) (r := (1, 0)) (by decide), zyS_q H (zFq_r _) (zFm_k 1 rfl)⟩
theorem zline_r {S : zR} {h : Nat} (hI : zInv S h) {b : Nat} (hb : b < zn S 0) : (zline S b).length ≤ 16 ∧ ∀ v, v ∈ zline S b → 0 ≤ v ∧ v < 65536 := by
  have hn := zn_le hI
  have h1 := hI.2.1 b hb
  unfold zIb at h1
  have h2 := zat_r hI b
  have h3 := hI.1
  unfold zline
  refine ⟨?_, fun v hv => ?_⟩
  · simp only [List.length_append, List.length_cons, List.length_nil]
    repeat' split
    all_goals simp only [List.length_append, List.length_cons, List.length_nil] <;> omega
  · simp only [List.mem_append, List.mem_cons, List.not_mem_nil, or_false] at hv
    rcases hv with (hv | hv | hv | hv | hv | hv | hv | hv) | hv | hv | hv
    · omega
    · omega
    · omega
    · omega
    · omega
    · omega
    · omega
    · omega
    · split at hv
      · simp only [List.mem_cons, List.not_mem_nil, or_false] at hv
        omega
      · exact absurd hv (by simp)
    · split at hv
      · simp only [List.mem_cons, List.not_mem_nil, or_false] at hv
        omega
      · exact absurd hv (by simp)
    · split at hv
      · simp only [List.mem_cons, List.not_mem_nil, or_false] at hv
        omega
      · exact absurd hv (by simp)
theorem zc_tell {s : az_S} {h : Nat} (H : zyS s h) (hh : h + 10 ≤ 10000) {a : Int} (ha : az_in a) : zCs am_m_X9_tell am_m_X10_tell [az_i a] [3] s h := by
  have hI := H.1.2.1
  refine az_wk (az_deep (zs_X9_tell (d := 12) (by decide) H.1.1 hI (by omega) ha H.2.2.2.2.2.2.1) (by decide)) (fun o t q => ?_)
  obtain ⟨rfl, q1, q2⟩ := q
  by_cases q : 0 ≤ a ∧ a < ((zn (s 35) 0 : Nat) : Int)
  · have q0 := (zq_tell_0 (S := s 35)).mp q
    obtain ⟨w1, w2, w3, w4⟩ := q1 q0
    refine az_wk (az_deep (zs_X10_tell (d := 12) (by decide) (w2 35 (by decide) (by decide)) hI (by omega) ha) (by decide)) (fun o2 t2 q9 => ?_)
    obtain ⟨rfl, p1, p2, p3, p4⟩ := q9
    have hl := zline_r hI (b := a.toNat) (by omega)
    refine ⟨?_, zyS_l H w1 (p2 q0) w4 (fun i _ _ _ _ _ f g => w2 i f g) p3 (fun i a _ c => p4 i a c) hl.1 hl.2⟩
    rw [p1]
    exact zMt_q (by rw [q0]; decide)
  · have hq : zq_tell (s 35) a = (1, 0) := by unfold zq_tell; rw [if_pos q]
    have := q2 (by rw [hq]; decide)
    subst this
    refine az_wk (az_deep (zs_X10_tell_n (d := 12) (by decide) rfl hI (by omega) ha q) (by decide)) (fun o2 t2 q9 => ?_)
    obtain ⟨rfl, rfl⟩ := q9
    rw [hq]
    exact ⟨zMt_q (es := [3]) (r := (1, 0)) (by decide), zyS_q H (zFq_r _) (zFm_k 1 rfl)⟩
/-- typing -/
theorem zc_type {s : az_S} {h : Nat} (H : zyS s h) (hh : h + 10 ≤ 10000) {a : Int} (ha : 0 ≤ a ∧ a < 65536) : zCs am_m_X9_type am_m_X10_type [az_i a] [2] s h := by
  have H0 := H
  obtain ⟨hW, ⟨p, c, hP⟩, hN, ⟨h60, n, T, hT, hY⟩, hE, hF, hL⟩ := H
  by_cases q : n = 60
  · refine az_wk (az_deep (zs_X9_type_n (d := 2) (by decide) h60 hT.1 q) (by decide)) (fun o t q9 => ?_)
    obtain ⟨rfl, rfl⟩ := q9
    refine az_wk (az_deep (zs_X10_type_n (d := 2) (by decide) hY.1 q) (by decide)) (fun o2 t2 q9 => ?_)
    obtain ⟨rfl, rfl⟩ := q9
    exact ⟨Or.inr ⟨0, 2, 0, rfl, rfl, rfl, rfl⟩, zyS_q H0 (zFq_r _) (zFm_k 1 rfl)⟩
  · have h59 : n < 60 := by have := hT.2.1; omega
    refine az_wk (az_deep (zs_X9_type_y (d := 2) (by decide) h60 hT.1 h59) (by decide)) (fun o t q9 => ?_)
    obtain ⟨rfl, rfl⟩ := q9
    refine az_wk (az_deep (zs_X10_type_y (d := 2) (s := am_up (am_up s 24 n a) 22 2 (((n : Nat) : Int) + 1)) (by decide) (n := n) hY.1 h59) (by decide)) (fun o2 t2 q9 => ?_)
    obtain ⟨rfl, rfl⟩ := q9
    refine ⟨Or.inl ⟨_, rfl, rfl, rfl⟩, zrr_up hW (by omega), ⟨p, c, zyP_c hP (by omega) rfl rfl rfl rfl rfl⟩, zyN_c hN (by omega) rfl rfl rfl rfl, ⟨h60, n + 1, fun k => if k = n then a else T k, ⟨rfl, by omega, fun k hk => ?_, fun k hk => ?_, fun k => ?_⟩, ⟨rfl, by omega, fun k hk => ?_, fun k hk => ?_, fun k => ?_⟩⟩, zyE_c hE rfl rfl, zyF_c hF rfl rfl rfl rfl rfl, zyL_c hL rfl rfl rfl rfl rfl⟩
    · show (if k = n then a else s 24 k) = if k = n then a else T k
      by_cases w : k = n
      · rw [if_pos w, if_pos w]
      · rw [if_neg w, if_neg w]; exact hT.2.2.1 k (by omega)
    · show (if k = n then a else T k) = 0
      rw [if_neg (by omega)]; exact hT.2.2.2.1 k (by omega)
    · show 0 ≤ (if k = n then a else T k) ∧ (if k = n then a else T k) < 65536
      split
      · exact ha
      · exact hT.2.2.2.2 k
    · show (if k = n then a else s 41 k) = if k = n then a else T k
      by_cases w : k = n
      · rw [if_pos w, if_pos w]
      · rw [if_neg w, if_neg w]; exact hY.2.2.1 k (by omega)
    · show (if k = n then a else T k) = 0
      rw [if_neg (by omega)]; exact hT.2.2.2.1 k (by omega)
    · show 0 ≤ (if k = n then a else T k) ∧ (if k = n then a else T k) < 65536
      split
      · exact ha
      · exact hT.2.2.2.2 k
/-- the snapshot is made -/
theorem zc_save {s : az_S} {h : Nat} (H : zyS s h) (hh : h + 10 ≤ 10000) : zCs am_m_X9_save am_m_X10_save [] [] s h := by
  have hI := H.1.2.1
  obtain ⟨hW, ⟨p, c, hP⟩, hN, hT, hE, hF, hL⟩ := H
  refine az_wk (az_deep (zs_X9_save (d := 3) (by decide) hW.1 hI (by omega)) (by decide)) (fun o t q9 => ?_)
  obtain ⟨rfl, rfl⟩ := q9
  refine az_wk (az_deep (zs_X10_save (d := 3) (by decide) (S := s 35) rfl hI (by omega)) (by decide)) (fun o2 t2 q9 => ?_)
  obtain ⟨rfl, a37, a12, a6, g4, g⟩ := q9
  refine ⟨Or.inl ⟨_, rfl, rfl, a6⟩, ?_, ⟨p, c, zyP_c hP (by omega) (by rw [g 17 (by decide) (by decide)]; rfl) (by rw [g 17 (by decide) (by decide)]; rfl) (by rw [g4 5 (by decide) (by decide)]; rfl) (by rw [g 19 (by decide) (by decide)]; rfl) (by rw [g 38 (by decide) (by decide)]; rfl)⟩, ⟨by rw [g 0 (by decide) (by decide), a12]; rfl, Or.inr ⟨by rw [g 0 (by decide) (by decide)]; rfl, ?_⟩⟩, zyT_c hT (by rw [g 22 (by decide) (by decide)]; rfl) (by rw [g 22 (by decide) (by decide)]; rfl) (by rw [g 24 (by decide) (by decide)]; rfl) (by rw [g4 17 (by decide) (by decide)]; rfl) (by rw [g 41 (by decide) (by decide)]; rfl), zyE_c hE (by rw [g 0 (by decide) (by decide)]; rfl) (by rw [g4 11 (by decide) (by decide)]; rfl), zyF_c hF (by rw [g 33 (by decide) (by decide)]; rfl) (by rw [g4 7 (by decide) (by decide)]; rfl) (by rw [g4 8 (by decide) (by decide)]; rfl) (by rw [g4 9 (by decide) (by decide)]; rfl) (by rw [g4 10 (by decide) (by decide)]; rfl), zyL_c hL (by rw [g 30 (by decide) (by decide)]; rfl) (by rw [g 30 (by decide) (by decide)]; rfl) (by rw [g 32 (by decide) (by decide)]; rfl) (by rw [g4 14 (by decide) (by decide)]; rfl) (by rw [g 40 (by decide) (by decide)]; rfl)⟩
  · unfold zyW
    rw [g 3 (by decide) (by decide), g 35 (by decide) (by decide)]
    exact zrr_up hW (by omega)
  · rw [g 21 (by decide) (by decide), a37]
    refine zrr_c (zrr_up hW (by omega)) (fun j hj => ?_) (fun j hj => ?_)
    · show (if 0 ≤ j ∧ j < 0 + 175 then s 35 (0 + (j - 0)) else s 37 j) = s 35 j
      rw [if_pos (by omega)]
      congr 1
      omega
    · show (if 0 ≤ j ∧ j < 0 + 184 then s 3 (0 + (j - 0)) else s 21 j) = s 3 j
      rw [if_pos (by omega)]
      congr 1
      omega
/-- back to the snapshot -/
theorem zc_restore {s : az_S} {h : Nat} (H : zyS s h) (hh : h + 10 ≤ 10000) : zCs am_m_X9_restore am_m_X10_restore [] [2] s h := by
  have H0 := H
  obtain ⟨hW, ⟨p, c, hP⟩, ⟨e0, hN⟩, hT, hE, hF, hL⟩ := H
  rcases hN with hN | ⟨h1, hN⟩
  · refine az_wk (az_deep (zs_X9_restore_n (d := 3) (by decide) hN) (by decide)) (fun o t q9 => ?_)
    obtain ⟨rfl, rfl⟩ := q9
    refine az_wk (az_deep (zs_X10_restore_n (d := 3) (by decide) (by rw [← e0]; exact hN)) (by decide)) (fun o2 t2 q9 => ?_)
    obtain ⟨rfl, rfl⟩ := q9
    exact ⟨Or.inr ⟨0, 2, 0, rfl, rfl, rfl, rfl⟩, zyS_q H0 (zFq_r _) (zFm_k 1 rfl)⟩
  · have hZ : zrr (va_cpy (s 21) (s 3) 0 0 184) (va_cpy (s 37) (s 35) 0 0 175) h := zrr_c hN (fun j hj => by
      show (if 0 ≤ j ∧ j < 0 + 175 then s 37 (0 + (j - 0)) else s 35 j) = s 37 j
      rw [if_pos (by omega)]
      congr 1
      omega) (fun j hj => by
      show (if 0 ≤ j ∧ j < 0 + 184 then s 21 (0 + (j - 0)) else s 3 j) = s 21 j
      rw [if_pos (by omega)]
      congr 1
      omega)
    refine az_wk (az_deep (zs_X9_restore_y (d := 3) (by decide) hZ.1 hZ.2.1 (by omega) h1) (by decide)) (fun o t q9 => ?_)
    obtain ⟨rfl, rfl⟩ := q9
    refine az_wk (az_deep (zs_X10_restore_y (d := 3) (by decide) (S := va_cpy (s 37) (s 35) 0 0 175) rfl hZ.2.1 (by omega) (by rw [show (am_up (am_ur s 3 (va_cpy (s 21) (s 3) 0 0 184)) 17 2 (0)) 34 12 = s 34 12 from rfl, ← e0]; exact h1)) (by decide)) (fun o2 t2 q9 => ?_)
    obtain ⟨rfl, a35, a5, a6, g4, g⟩ := q9
    refine ⟨Or.inl ⟨_, rfl, rfl, a6⟩, ?_, ⟨p, 0, hP.1, by decide, by rw [g 17 (by decide) (by decide)]; exact hP.2.2.1, by rw [g 17 (by decide) (by decide)]; rfl, a5, fun i hi => absurd hi (by omega)⟩, zyN_c ⟨e0, Or.inr ⟨h1, hN⟩⟩ (by omega) (by rw [g 0 (by decide) (by decide)]; rfl) (by rw [g4 12 (by decide) (by decide)]; rfl) (by rw [g 21 (by decide) (by decide)]; rfl) (by rw [g 37 (by decide) (by decide)]; rfl), zyT_c hT (by rw [g 22 (by decide) (by decide)]; rfl) (by rw [g 22 (by decide) (by decide)]; rfl) (by rw [g 24 (by decide) (by decide)]; rfl) (by rw [g4 17 (by decide) (by decide)]; rfl) (by rw [g 41 (by decide) (by decide)]; rfl), zyE_c hE (by rw [g 0 (by decide) (by decide)]; rfl) (by rw [g4 11 (by decide) (by decide)]; rfl), zyF_c hF (by rw [g 33 (by decide) (by decide)]; rfl) (by rw [g4 7 (by decide) (by decide)]; rfl) (by rw [g4 8 (by decide) (by decide)]; rfl) (by rw [g4 9 (by decide) (by decide)]; rfl) (by rw [g4 10 (by decide) (by decide)]; rfl), zyL_c hL (by rw [g 30 (by decide) (by decide)]; rfl) (by rw [g 30 (by decide) (by decide)]; rfl) (by rw [g 32 (by decide) (by decide)]; rfl) (by rw [g4 14 (by decide) (by decide)]; rfl) (by rw [g 40 (by decide) (by decide)]; rfl)⟩
    unfold zyW
    rw [g 3 (by decide) (by decide), a35]
    exact zrr_up hZ (by omega)
/-- a step back -/
theorem zc_undo {s : az_S} {h : Nat} (H : zyS s h) (hh : h + 10 ≤ 10000) : zCs am_m_X9_undo am_m_X10_undo [] [2] s h := by
  have H0 := H
  obtain ⟨hW, ⟨p, c, hP⟩, hN, hT, hE, hF, hL⟩ := H
  obtain ⟨a1, a2, a3, a4, a5, a6⟩ := hP
  by_cases q : c = 0
  · subst q
    refine az_wk (az_deep (zs_X9_undo_0 (d := 4) (by decide) a4) (by decide)) (fun o t q9 => ?_)
    obtain ⟨rfl, rfl⟩ := q9
    refine az_wk (az_deep (zs_X10_undo_n (d := 4) (by decide) a5) (by decide)) (fun o2 t2 q9 => ?_)
    obtain ⟨rfl, rfl⟩ := q9
    exact ⟨Or.inr ⟨0, 2, 0, rfl, rfl, rfl, rfl⟩, zyS_q H0 (zFq_r _) (zFm_k 1 rfl)⟩
  · obtain ⟨c, rfl⟩ : ∃ k, c = k + 1 := ⟨c - 1, by omega⟩
    have key : ∀ p2, (p + 8) % 9 = p2 → p2 ≤ 8 → az_R 12 am_m_X10_undo 0 (az_ini (am_mL am_m_X10_undo) [az_r 34]) [] (am_ur (am_up (am_up s 17 1 ((p2 : Nat) : Int)) 17 2 (((c : Nat) : Int))) 3 (va_cpy (s 19) (s 3) (p2 * 184) 0 184)) (fun o2 t2 => zMt [2] (.inl (some (az_i ((c : Nat) : Int)))) o2 (t2 34 6) ∧ zyS t2 (h + 10)) := fun p2 hp2 h8 => by
      refine az_wk (az_deep (zs_X10_undo_y (d := 4) (by decide) a5 (by omega)) (by decide)) (fun o2 t2 q9 => ?_)
      obtain ⟨rfl, b35, b5, b6, g4, g⟩ := q9
      refine ⟨Or.inl ⟨_, rfl, rfl, b6⟩, ?_, ⟨p2, c, h8, by omega, by rw [g 17 (by decide) (by decide)]; rfl, by rw [g 17 (by decide) (by decide)]; rfl, b5, fun i hi => ?_⟩, zyN_c hN (by omega) (by rw [g 0 (by decide) (by decide)]; rfl) (by rw [g4 12 (by decide) (by decide)]; rfl) (by rw [g 21 (by decide) (by decide)]; rfl) (by rw [g 37 (by decide) (by decide)]; rfl), zyT_c hT (by rw [g 22 (by decide) (by decide)]; rfl) (by rw [g 22 (by decide) (by decide)]; rfl) (by rw [g 24 (by decide) (by decide)]; rfl) (by rw [g4 17 (by decide) (by decide)]; rfl) (by rw [g 41 (by decide) (by decide)]; rfl), zyE_c hE (by rw [g 0 (by decide) (by decide)]; rfl) (by rw [g4 11 (by decide) (by decide)]; rfl), zyF_c hF (by rw [g 33 (by decide) (by decide)]; rfl) (by rw [g4 7 (by decide) (by decide)]; rfl) (by rw [g4 8 (by decide) (by decide)]; rfl) (by rw [g4 9 (by decide) (by decide)]; rfl) (by rw [g4 10 (by decide) (by decide)]; rfl), zyL_c hL (by rw [g 30 (by decide) (by decide)]; rfl) (by rw [g 30 (by decide) (by decide)]; rfl) (by rw [g 32 (by decide) (by decide)]; rfl) (by rw [g4 14 (by decide) (by decide)]; rfl) (by rw [g 40 (by decide) (by decide)]; rfl)⟩
      · unfold zyW
        rw [g 3 (by decide) (by decide), b35]
        refine zrr_c (zrr_up (a6 c (by omega)) (h2 := h + 10) (by omega)) (fun j hj => ?_) (fun j hj => ?_)
        · show (if 0 ≤ j ∧ j < 0 + 175 then s 38 (175 * c + (j - 0)) else s 35 j) = s 38 (175 * c + j)
          rw [if_pos (by omega)]
          congr 1
        · show (if 0 ≤ j ∧ j < 0 + 184 then s 19 (p2 * 184 + (j - 0)) else s 3 j) = s 19 ((p + 9 - (c + 1) + c) % 9 * 184 + j)
          rw [if_pos (by omega), show (p + 9 - (c + 1) + c) % 9 = p2 from by omega]
          congr 1
      · rw [g 19 (by decide) (by decide), g 38 (by decide) (by decide), show (p2 + 9 - c + i) % 9 = (p + 9 - (c + 1) + i) % 9 from by omega]
        exact zrr_up (a6 i (by omega)) (by omega)
    by_cases q2 : p = 0
    · subst q2
      refine az_wk (az_deep (zs_X9_undo_z (d := 4) (by decide) a3 a4 (by omega)) (by decide)) (fun o t q9 => ?_)
      obtain ⟨rfl, rfl⟩ := q9
      exact key 8 (by omega) (by omega)
    · obtain ⟨p, rfl⟩ : ∃ k, p = k + 1 := ⟨p - 1, by omega⟩
      refine az_wk (az_deep (zs_X9_undo_p (d := 4) (by decide) a3 (by omega) a4 (by omega)) (by decide)) (fun o t q9 => ?_)
      obtain ⟨rfl, rfl⟩ := q9
      exact key p (by omega) (by omega)
