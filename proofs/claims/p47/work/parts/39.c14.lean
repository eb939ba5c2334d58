/-! CLASS, 14: a command read from the text; written by program (wip/tools/zg/s14.py) -/
/-- the form of a kind, how far all forms before a kind go, the first kind that fits -/
def zF (k : Nat) : List Char := ((am_sx[k]?).getD "").toList
def zer (T : Nat → Int) (i : Nat) : Nat → Int
  | 0 => ((i : Nat) : Int)
  | k + 1 => if zer T i k < (((zms T (zF k) i).1 : Nat) : Int) then (((zms T (zF k) i).1 : Nat) : Int) else zer T i k
def zfk (T : Nat → Int) (i : Nat) : Int := zf 13 (fun k => (zms T (zF k) i).2.1)
def zPK (s : az_S) (c i0 : Nat) (T : Nat → Int) (k : Nat) (t : az_S) : Prop := t 25 3 = ((c : Nat) : Int) ∧ t 25 4 = ((i0 : Nat) : Int) ∧ t 25 5 = zer T i0 k ∧ (∀ j, j ≠ 4 → j ≠ 5 → t 25 j = s 25 j) ∧ (∀ j, j < 4 * c → t 29 j = s 29 j) ∧ ∀ j, j ≠ 25 → j ≠ 29 → t j = s j
theorem zF_ok : ∀ k, k < 13 → ∃ tx, am_sx[k]? = some tx ∧ tx.length ≤ 14 ∧ zpc tx.toList ≤ 4 ∧ zF k = tx.toList := by
  intro k hk
  have hc : k = 0 ∨ k = 1 ∨ k = 2 ∨ k = 3 ∨ k = 4 ∨ k = 5 ∨ k = 6 ∨ k = 7 ∨ k = 8 ∨ k = 9 ∨ k = 10 ∨ k = 11 ∨ k = 12 := by omega
  rcases hc with rfl | rfl | rfl | rfl | rfl | rfl | rfl | rfl | rfl | rfl | rfl | rfl | rfl <;> exact ⟨_, rfl, by decide, by decide, rfl⟩
theorem zwd_r (T : Nat → Int) (w : Int) (i : Nat) : 1 ≤ zwd T w i ∧ zwd T w i ≤ 2 := by unfold zwd; split <;> omega
theorem zms_r (T : Nat → Int) : ∀ (F : List Char) (i : Nat), i ≤ (zms T F i).1 ∧ (zms T F i).1 ≤ i + 2 * F.length
  | [], i => ⟨Nat.le_refl _, Nat.le_refl _⟩
  | w :: F, i => by
    have h := zms_r T F (i + zwd T w.toNat i)
    have h2 := zwd_r T w.toNat i
    unfold zms
    split
    · rw [List.length_cons]
      dsimp only
      omega
    · rw [List.length_cons]
      dsimp only
      omega
theorem zer_r (T : Nat → Int) (i : Nat) : ∀ k, k ≤ 13 → ((i : Nat) : Int) ≤ zer T i k ∧ zer T i k ≤ ((i : Nat) : Int) + 28
  | 0, _ => by show ((i : Nat) : Int) ≤ ((i : Nat) : Int) ∧ ((i : Nat) : Int) ≤ ((i : Nat) : Int) + 28; omega
  | k + 1, hk => by
    have h := zer_r T i k (by omega)
    obtain ⟨tx, _, h14, _, hF⟩ := zF_ok k (by omega)
    have h2 := zms_r T (zF k) i
    rw [hF, String.length_toList] at h2
    rw [show zer T i (k + 1) = if zer T i k < (((zms T (zF k) i).1 : Nat) : Int) then (((zms T (zF k) i).1 : Nat) : Int) else zer T i k from rfl, hF]
    split <;> omega
set_option maxRecDepth 100000 in
set_option maxHeartbeats 800000 in
theorem zs_X1_formOf {d : Nat} {s : az_S} (hd : 0 ≤ d) {k : Nat} (hk : k < 13) : az_R d am_m_X1_formOf 0 (az_ini (am_mL am_m_X1_formOf) [az_i (((k : Nat) : Int))]) [] (s) (az_ret (some (az_x (k + 1))) (s)) := by
  refine az_to 0 (pc2 := 0) (lv2 := [some (az_i (((k : Nat) : Int)))]) (st2 := []) (s2 := s) rfl ?_
  refine az_to 1 (pc2 := 1) (lv2 := [some (az_i (((k : Nat) : Int)))]) (st2 := [az_i (((k : Nat) : Int))]) (s2 := s) rfl ?_
  have h1 : (((k : Nat) : Int) < 0 ∨ 11 < ((k : Nat) : Int)) ∨ ((k : Nat) : Int) = 0 ∨ ((k : Nat) : Int) = 1 ∨ ((k : Nat) : Int) = 2 ∨ ((k : Nat) : Int) = 3 ∨ ((k : Nat) : Int) = 4 ∨ ((k : Nat) : Int) = 5 ∨ ((k : Nat) : Int) = 6 ∨ ((k : Nat) : Int) = 7 ∨ ((k : Nat) : Int) = 8 ∨ ((k : Nat) : Int) = 9 ∨ ((k : Nat) : Int) = 10 ∨ ((k : Nat) : Int) = 11 := by omega
  rcases h1 with h1 | h1 | h1 | h1 | h1 | h1 | h1 | h1 | h1 | h1 | h1 | h1 | h1
  · refine az_swd 100 rfl (by first | assumption | exact ⟨by omega, by omega⟩) h1 (by decide) ?_
    refine az_to 1 (pc2 := 102) (lv2 := [some (az_i (((k : Nat) : Int)))]) (st2 := [az_x 13]) (s2 := s) rfl ?_
    refine az_retX rfl rfl ?_
    obtain rfl : k = 12 := by omega
    exact ⟨rfl, rfl⟩
  · refine az_swc 64 rfl (by first | assumption | exact ⟨by omega, by omega⟩) (by omega) (off := 63) (by rw [h1]; rfl) (by decide) ?_
    refine az_to 1 (pc2 := 66) (lv2 := [some (az_i (((k : Nat) : Int)))]) (st2 := [az_x 1]) (s2 := s) rfl ?_
    refine az_retX rfl rfl ?_
    obtain rfl : k = 0 := by omega
    exact ⟨rfl, rfl⟩
  · refine az_swc 67 rfl (by first | assumption | exact ⟨by omega, by omega⟩) (by omega) (off := 66) (by rw [h1]; rfl) (by decide) ?_
    refine az_to 1 (pc2 := 69) (lv2 := [some (az_i (((k : Nat) : Int)))]) (st2 := [az_x 2]) (s2 := s) rfl ?_
    refine az_retX rfl rfl ?_
    obtain rfl : k = 1 := by omega
    exact ⟨rfl, rfl⟩
  · refine az_swc 70 rfl (by first | assumption | exact ⟨by omega, by omega⟩) (by omega) (off := 69) (by rw [h1]; rfl) (by decide) ?_
    refine az_to 1 (pc2 := 72) (lv2 := [some (az_i (((k : Nat) : Int)))]) (st2 := [az_x 3]) (s2 := s) rfl ?_
    refine az_retX rfl rfl ?_
    obtain rfl : k = 2 := by omega
    exact ⟨rfl, rfl⟩
  · refine az_swc 73 rfl (by first | assumption | exact ⟨by omega, by omega⟩) (by omega) (off := 72) (by rw [h1]; rfl) (by decide) ?_
    refine az_to 1 (pc2 := 75) (lv2 := [some (az_i (((k : Nat) : Int)))]) (st2 := [az_x 4]) (s2 := s) rfl ?_
    refine az_retX rfl rfl ?_
    obtain rfl : k = 3 := by omega
    exact ⟨rfl, rfl⟩
  · refine az_swc 76 rfl (by first | assumption | exact ⟨by omega, by omega⟩) (by omega) (off := 75) (by rw [h1]; rfl) (by decide) ?_
    refine az_to 1 (pc2 := 78) (lv2 := [some (az_i (((k : Nat) : Int)))]) (st2 := [az_x 5]) (s2 := s) rfl ?_
    refine az_retX rfl rfl ?_
    obtain rfl : k = 4 := by omega
    exact ⟨rfl, rfl⟩
  · refine az_swc 79 rfl (by first | assumption | exact ⟨by omega, by omega⟩) (by omega) (off := 78) (by rw [h1]; rfl) (by decide) ?_
    refine az_to 1 (pc2 := 81) (lv2 := [some (az_i (((k : Nat) : Int)))]) (st2 := [az_x 6]) (s2 := s) rfl ?_
    refine az_retX rfl rfl ?_
    obtain rfl : k = 5 := by omega
    exact ⟨rfl, rfl⟩
  · refine az_swc 82 rfl (by first | assumption | exact ⟨by omega, by omega⟩) (by omega) (off := 81) (by rw [h1]; rfl) (by decide) ?_
    refine az_to 1 (pc2 := 84) (lv2 := [some (az_i (((k : Nat) : Int)))]) (st2 := [az_x 7]) (s2 := s) rfl ?_
    refine az_retX rfl rfl ?_
    obtain rfl : k = 6 := by omega
    exact ⟨rfl, rfl⟩
  · refine az_swc 85 rfl (by first | assumption | exact ⟨by omega, by omega⟩) (by omega) (off := 84) (by rw [h1]; rfl) (by decide) ?_
    refine az_to 1 (pc2 := 87) (lv2 := [some (az_i (((k : Nat) : Int)))]) (st2 := [az_x 8]) (s2 := s) rfl ?_
    refine az_retX rfl rfl ?_
    obtain rfl : k = 7 := by omega
    exact ⟨rfl, rfl⟩
  · refine az_swc 88 rfl (by first | assumption | exact ⟨by omega, by omega⟩) (by omega) (off := 87) (by rw [h1]; rfl) (by decide) ?_
    refine az_to 1 (pc2 := 90) (lv2 := [some (az_i (((k : Nat) : Int)))]) (st2 := [az_x 9]) (s2 := s) rfl ?_
    refine az_retX rfl rfl ?_
    obtain rfl : k = 8 := by omega
    exact ⟨rfl, rfl⟩
  · refine az_swc 91 rfl (by first | assumption | exact ⟨by omega, by omega⟩) (by omega) (off := 90) (by rw [h1]; rfl) (by decide) ?_
    refine az_to 1 (pc2 := 93) (lv2 := [some (az_i (((k : Nat) : Int)))]) (st2 := [az_x 10]) (s2 := s) rfl ?_
    refine az_retX rfl rfl ?_
    obtain rfl : k = 9 := by omega
    exact ⟨rfl, rfl⟩
  · refine az_swc 94 rfl (by first | assumption | exact ⟨by omega, by omega⟩) (by omega) (off := 93) (by rw [h1]; rfl) (by decide) ?_
    refine az_to 1 (pc2 := 96) (lv2 := [some (az_i (((k : Nat) : Int)))]) (st2 := [az_x 11]) (s2 := s) rfl ?_
    refine az_retX rfl rfl ?_
    obtain rfl : k = 10 := by omega
    exact ⟨rfl, rfl⟩
  · refine az_swc 97 rfl (by first | assumption | exact ⟨by omega, by omega⟩) (by omega) (off := 96) (by rw [h1]; rfl) (by decide) ?_
    refine az_to 1 (pc2 := 99) (lv2 := [some (az_i (((k : Nat) : Int)))]) (st2 := [az_x 12]) (s2 := s) rfl ?_
    refine az_retX rfl rfl ?_
    obtain rfl : k = 11 := by omega
    exact ⟨rfl, rfl⟩
set_option maxRecDepth 100000 in
set_option maxHeartbeats 800000 in
theorem zs_X1_parseCommand_L10 {d : Nat} {s : az_S} (hd : 6 ≤ d) {n : Nat} {T : Nat → Int} (hT : zTx s n T) {c i0 : Nat} (hc9 : c ≤ 10) (hi0 : i0 ≤ 60) (hc : s 25 3 = ((c : Nat) : Int)) (hat : s 25 4 = ((i0 : Nat) : Int)) : ∀ (mq : Nat) (k : Nat) (u : az_S), mq = 13 - k → (k ≤ 13) → (zPK s c i0 T k u) → (∀ i, i < k → (zms T (zF i) i0).2.1 = false) → az_R d am_m_X1_parseCommand 10 [some (az_r 25), some (az_i (((k : Nat) : Int)))] [] (u) (fun o t => o = .inl (some (az_i (az_b (0 ≤ zfk T i0)))) ∧ (0 ≤ zfk T i0 → t 25 4 = (((zms T (zF (zfk T i0).toNat) i0).1 : Nat) : Int) ∧ t 27 c = zfk T i0 ∧ ∀ q, q < (zms T (zF (zfk T i0).toNat) i0).2.2.length → t 29 (4 * c + q) = (zms T (zF (zfk T i0).toNat) i0).2.2.getD q 0) ∧ (¬ 0 ≤ zfk T i0 → t 25 5 = zer T i0 13) ∧ (∀ j, j ≠ 4 → j ≠ 5 → t 25 j = s 25 j) ∧ (∀ j, j ≠ c → t 27 j = s 27 j) ∧ (∀ j, j < 4 * c → t 29 j = s 29 j) ∧ ∀ j, j ≠ 25 → j ≠ 27 → j ≠ 29 → t j = s j) := by
  intro mq
  induction mq using Nat.strongRecOn with
  | _ mq ih =>
    intro k u hm g0 g1 g2
    refine az_to 2 (pc2 := 13) (lv2 := [some (az_r 25), some (az_i (((k : Nat) : Int)))]) (st2 := [az_i (13), az_i (((k : Nat) : Int))]) (s2 := u) rfl ?_
    refine az_if2 47 16 rfl (by decide) (by first | assumption | exact ⟨by omega, by omega⟩) ⟨by decide, by decide⟩ (fun h1 => ?_) (fun h1 => ?_)
    · have h1 : 13 ≤ ((k : Nat) : Int) := h1
      refine az_to 1 (pc2 := 48) (lv2 := [some (az_r 25), some (az_i (((k : Nat) : Int)))]) (st2 := [az_i (0)]) (s2 := u) rfl ?_
      refine az_retB rfl rfl (by first | decide | omega | exact Or.inl rfl | exact Or.inr rfl) ?_
      obtain rfl : k = 13 := by omega
      have hz : zfk T i0 = -1 := zf_none _ _ g2
      rw [hz]
      refine ⟨rfl, fun h => absurd h (by decide), fun _ => g1.2.2.1, g1.2.2.2.1, fun j hj => ?_, g1.2.2.2.2.1, fun j h1 h2 h3 => g1.2.2.2.2.2 j h1 h3⟩
      rw [g1.2.2.2.2.2 27 (by decide) (by decide)]
    · have h1 : ¬ (13 ≤ ((k : Nat) : Int)) := h1
      have hTu : zTx u n T := ⟨by rw [g1.2.2.2.2.2 22 (by decide) (by decide)]; exact hT.1, hT.2.1, fun k hk => by rw [g1.2.2.2.2.2 24 (by decide) (by decide)]; exact hT.2.2.1 k hk, hT.2.2.2⟩
      obtain ⟨tx, htx, h14, hpc, hF⟩ := zF_ok k (by omega)
      have hzr := zer_r T i0 k (by omega)
      refine az_to 2 (pc2 := 18) (lv2 := [some (az_r 25), some (az_i (((k : Nat) : Int)))]) (st2 := [az_i (((k : Nat) : Int)), az_r 25]) (s2 := u) rfl ?_
      refine az_clv (v := some (az_x (k + 1))) (t := u) (m2 := am_m_X1_formOf) (as := [az_i (((k : Nat) : Int))]) (rest := [az_r 25]) 21 rfl rfl ⟨rfl, rfl⟩ (by omega) (zs_X1_formOf (s := u) (k := k) (by omega) (by omega)) ?_
      refine az_to 0 (pc2 := 21) (lv2 := [some (az_r 25), some (az_i (((k : Nat) : Int)))]) (st2 := [az_x (k + 1), az_r 25]) (s2 := u) rfl ?_
      refine az_cl (m2 := am_m_X1_matches) (as := [az_r 25, az_x (k + 1)]) (rest := []) 24 rfl rfl ⟨rfl, rfl⟩ (by omega) (zs_X1_matches (s := u)  (by omega) hTu htx h14 hc9 hi0 g1.1 g1.2.1 g1.2.2.1 (by omega) hpc) (fun v9 t q9 => ?_) (fun E9 t q9 => by cases q9.1)
      obtain ⟨o9, q1, q2, q3, q4, q5, q6⟩ := q9
      cases o9
      rw [← hF] at q1 q2 q4
      refine az_to 0 (pc2 := 24) (lv2 := [some (az_r 25), some (az_i (((k : Nat) : Int)))]) (st2 := [az_i (az_b ((zms T (zF k) i0).2.1 = true))]) (s2 := t) (by rw [hF]; rfl) ?_
      refine az_ifbe 41 27 rfl (by decide) (fun h2 => ?_) (fun h2 => ?_)
      · have h2 : ¬ ((zms T (zF k) i0).2.1 = true) := h2
        refine az_to 2 (pc2 := 10) (lv2 := [some (az_r 25), some (az_i ((((k : Nat) : Int) + 1)))]) (st2 := []) (s2 := t) rfl ?_
        refine ih _ (by omega) (k + 1) t rfl (by omega) ⟨?_, ?_, ?_, fun j h4 h5 => ?_, fun j hj => ?_, fun j h1 h2 => ?_⟩ (fun i hi => ?_)
        · rw [q3 3 (by decide) (by decide)]; exact g1.1
        · rw [q1, if_neg (by assumption)]
        · rw [q2, if_neg (by assumption)]; rfl
        · rw [q3 j h4 h5]; exact g1.2.2.2.1 j h4 h5
        · rw [q5 j hj]; exact g1.2.2.2.2.1 j hj
        · rw [q6 j h1 h2]; exact g1.2.2.2.2.2 j h1 h2
        · by_cases q : i = k
          · rw [q]; exact eq_false_of_ne_true (by assumption)
          · exact g2 i (by omega)
      · have h2 : (zms T (zF k) i0).2.1 = true := h2
        refine az_to 4 (pc2 := 35) (lv2 := [some (az_r 25), some (az_i (((k : Nat) : Int)))]) (st2 := [az_i (t 25 3), az_r 26]) (s2 := t) rfl ?_
        refine az_to 0 (pc2 := 35) (lv2 := [some (az_r 25), some (az_i (((k : Nat) : Int)))]) (st2 := [az_i (((c : Nat) : Int)), az_r 26]) (s2 := t) (by rw [show t 25 3 = ((c : Nat) : Int) from (by rw [q3 3 (by decide) (by decide)]; exact g1.1)]; rfl) ?_
        refine az_to 1 (pc2 := 36) (lv2 := [some (az_r 25), some (az_i (((k : Nat) : Int)))]) (st2 := [az_i (((k : Nat) : Int)), az_i (((c : Nat) : Int)), az_r 26]) (s2 := t) rfl ?_
        refine az_clv (v := none) (t := am_up t 27 c (((k : Nat) : Int))) (m2 := am_m_X5_put) (as := [az_r 26, az_i (((c : Nat) : Int)), az_i (((k : Nat) : Int))]) (rest := []) 39 rfl rfl ⟨rfl, rfl⟩ (by omega) (zs_X5_put_26 (s := t) (k := c) (v := (((k : Nat) : Int))) (by omega) (by omega)) ?_
        refine az_to 0 (pc2 := 39) (lv2 := [some (az_r 25), some (az_i (((k : Nat) : Int)))]) (st2 := []) (s2 := am_up t 27 c (((k : Nat) : Int))) rfl ?_
        refine az_to 1 (pc2 := 40) (lv2 := [some (az_r 25), some (az_i (((k : Nat) : Int)))]) (st2 := [az_i (1)]) (s2 := am_up t 27 c (((k : Nat) : Int))) rfl ?_
        refine az_retB rfl rfl (by first | decide | omega | exact Or.inl rfl | exact Or.inr rfl) ?_
        have hz : zfk T i0 = ((k : Nat) : Int) := zf_first _ _ k (by omega) (by assumption) g2
        rw [hz]
        have hok : (zms T (zF k) i0).2.1 = true := by assumption
        refine ⟨by rw [az_b1 (by omega)], fun _ => ⟨?_, by simp [am_up], fun q hq => ?_⟩, fun h => absurd h (by omega), fun j h4 h5 => ?_, fun j hj => ?_, fun j hj => ?_, fun j h1 h2 h3 => ?_⟩
        · show t 25 4 = _; rw [q1, if_pos hok]; rfl
        · show t 29 _ = _; rw [Int.toNat_natCast] at hq ⊢; exact q4 hok q hq
        · show t 25 j = _; rw [q3 j h4 h5]; exact g1.2.2.2.1 j h4 h5
        · simp only [am_up, if_true, if_neg hj]; rw [q6 27 (by decide) (by decide), g1.2.2.2.2.2 27 (by decide) (by decide)]
        · show t 29 j = _; rw [q5 j hj]; exact g1.2.2.2.2.1 j hj
        · rw [← g1.2.2.2.2.2 j h1 h3, ← q6 j h1 h3]; funext b; simp [am_up, h2]
set_option maxRecDepth 100000 in
set_option maxHeartbeats 800000 in
theorem zs_X1_parseCommand {d : Nat} {s : az_S} (hd : 6 ≤ d) {n : Nat} {T : Nat → Int} (hT : zTx s n T) {c i0 : Nat} (hc9 : c ≤ 10) (hi0 : i0 ≤ 60) (hc : s 25 3 = ((c : Nat) : Int)) (hat : s 25 4 = ((i0 : Nat) : Int)) : az_R d am_m_X1_parseCommand 0 (az_ini (am_mL am_m_X1_parseCommand) [az_r 25]) [] (s) (fun o t => o = .inl (some (az_i (az_b (0 ≤ zfk T i0)))) ∧ (0 ≤ zfk T i0 → t 25 4 = (((zms T (zF (zfk T i0).toNat) i0).1 : Nat) : Int) ∧ t 27 c = zfk T i0 ∧ ∀ q, q < (zms T (zF (zfk T i0).toNat) i0).2.2.length → t 29 (4 * c + q) = (zms T (zF (zfk T i0).toNat) i0).2.2.getD q 0) ∧ (¬ 0 ≤ zfk T i0 → t 25 5 = zer T i0 13) ∧ (∀ j, j ≠ 4 → j ≠ 5 → t 25 j = s 25 j) ∧ (∀ j, j ≠ c → t 27 j = s 27 j) ∧ (∀ j, j < 4 * c → t 29 j = s 29 j) ∧ ∀ j, j ≠ 25 → j ≠ 27 → j ≠ 29 → t j = s j) := by
  refine az_to 0 (pc2 := 0) (lv2 := [some (az_r 25), none]) (st2 := []) (s2 := s) rfl ?_
  refine az_to 3 (pc2 := 5) (lv2 := [some (az_r 25), none]) (st2 := [az_i (s 25 4), az_r 25]) (s2 := s) rfl ?_
  refine az_to 0 (pc2 := 5) (lv2 := [some (az_r 25), none]) (st2 := [az_i (((i0 : Nat) : Int)), az_r 25]) (s2 := s) (by rw [show s 25 4 = ((i0 : Nat) : Int) from hat]; rfl) ?_
  refine az_to 3 (pc2 := 10) (lv2 := [some (az_r 25), some (az_i (0))]) (st2 := []) (s2 := am_up s 25 5 (((i0 : Nat) : Int))) rfl ?_
  exact zs_X1_parseCommand_L10 (by omega) hT hc9 hi0 hc hat _ 0 _ rfl (by omega) ⟨by simp [am_up, hc], by simp [am_up, hat], rfl, fun j h4 h5 => by simp [am_up, h5], fun j hj => by simp [am_up], fun j h1 h2 => by funext b; simp [am_up, h1]⟩ (fun i hi => absurd hi (by omega))

