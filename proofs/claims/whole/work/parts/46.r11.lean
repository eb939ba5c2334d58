/-! REFERENCE, 11: a command read from the text; written by program (wip/tools/zg/r11.py) -/
def zRB (T : Nat → Int) (ix c : Nat) (s : az_S) (o : az_O) (t : az_S) : Prop :=
  o = .inl (some (az_i (az_b (0 ≤ zfk T ix)))) ∧ (0 ≤ zfk T ix → t 34 18 = (((zms T (zF (zfk T ix).toNat) ix).1 : Nat) : Int) ∧ t 34 19 = ((c + 1 : Nat) : Int) ∧ t 42 (5 * c) = zfk T ix ∧ ∀ q, q < (zms T (zF (zfk T ix).toNat) ix).2.2.length → t 42 (5 * c + 1 + q) = (zms T (zF (zfk T ix).toNat) ix).2.2.getD q 0) ∧ (¬ 0 ≤ zfk T ix → t 34 18 = zer T ix 13) ∧ (∀ j, j < 5 * c → t 42 j = s 42 j) ∧ (∀ j, j ≠ 18 → j ≠ 19 → j ≠ 20 → t 34 j = s 34 j) ∧ ∀ j, j ≠ 34 → j ≠ 42 → t j = s j
/-- all arguments read -/
theorem zRB_y {T : Nat → Int} {ix c : Nat} {s t : az_S} {P : Nat} {L : List Int} (h0 : 0 ≤ zwi T ix) (hm : zms T (zRs (zwi T ix).toNat) (ix + (zWd (zwi T ix).toNat).length) = (P, true, L)) (a1 : t 34 18 = ((P : Nat) : Int)) (a2 : t 34 19 = ((c + 1 : Nat) : Int)) (a3 : t 42 (5 * c) = zwi T ix) (a4 : ∀ q, q < L.length → t 42 (5 * c + 1 + q) = L.getD q 0) (a5 : ∀ j, j < 5 * c → t 42 j = s 42 j) (a6 : ∀ j, j ≠ 18 → j ≠ 19 → j ≠ 20 → t 34 j = s 34 j) (a7 : ∀ j, j ≠ 34 → j ≠ 42 → t j = s j) : zRB T ix c s (.inl (some (az_i 1))) t := by
  obtain ⟨h1, h2, h3⟩ := zfk_w h0
  rw [hm] at h1 h2 h3
  rw [if_pos rfl] at h1
  unfold zRB
  rw [h1, h3]
  exact ⟨by rw [az_b1 h0], fun _ => ⟨a1, a2, a3, a4⟩, fun h => absurd h0 h, a5, a6, a7⟩
/-- an argument does not fit -/
theorem zRB_n {T : Nat → Int} {ix c : Nat} {s t : az_S} {P : Nat} {L : List Int} (h0 : 0 ≤ zwi T ix) (hm : zms T (zRs (zwi T ix).toNat) (ix + (zWd (zwi T ix).toNat).length) = (P, false, L)) (a1 : t 34 18 = ((P : Nat) : Int)) (a5 : ∀ j, j < 5 * c → t 42 j = s 42 j) (a6 : ∀ j, j ≠ 18 → j ≠ 19 → j ≠ 20 → t 34 j = s 34 j) (a7 : ∀ j, j ≠ 34 → j ≠ 42 → t j = s j) : zRB T ix c s (.inl (some (az_i 0))) t := by
  obtain ⟨h1, h2, h3⟩ := zfk_w h0
  rw [hm] at h1 h2 h3
  rw [if_neg (fun q => absurd (show false = true from q) (by decide))] at h1
  unfold zRB
  rw [h1, h2]
  exact ⟨rfl, fun h => absurd h (by decide), fun _ => a1, a5, a6, a7⟩
theorem zRB_w {T : Nat → Int} {ix c : Nat} {s t : az_S} (h0 : ¬ 0 ≤ zwi T ix) (a1 : t 34 18 = ((ix : Nat) : Int) + zwm T ix 13) (a5 : ∀ j, j < 5 * c → t 42 j = s 42 j) (a6 : ∀ j, j ≠ 18 → j ≠ 19 → j ≠ 20 → t 34 j = s 34 j) (a7 : ∀ j, j ≠ 34 → j ≠ 42 → t j = s j) : zRB T ix c s (.inl (some (az_i 0))) t := by
  obtain ⟨h1, h2⟩ := zfk_n (zwi_n h0)
  unfold zRB
  rw [h1, h2]
  exact ⟨rfl, fun h => absurd h (by decide), fun _ => a1, a5, a6, a7⟩
theorem zTn {s : az_S} {n : Nat} {T : Nat → Int} (hT : zTy s n T) {i : Nat} (h : T i ≠ 0) : i < n := by
  by_cases q : i < n
  · exact q
  · exact absurd (hT.2.2.2.1 i (by omega)) h
theorem zal_n {s : az_S} {n : Nat} {T : Nat → Int} (hT : zTy s n T) {i : Nat} (hi : i ≤ n) {W : List Char} (hW : ∃ tx, am_sx[0]? = am_sx[0]? ∧ (∀ c, c ∈ tx → 0 < c.toNat) ∧ W = tx) (h : zal T W i = W.length) : i + W.length ≤ n := by
  obtain ⟨tx, _, hp, rfl⟩ := hW
  by_cases q : W.length = 0
  · omega
  · have h1 := zal_at T W i (W.length - 1) _ (by omega) (List.getElem?_eq_getElem (by omega))
    have h2 := hp _ (List.getElem_mem (by omega : W.length - 1 < W.length))
    have := zTn hT (i := i + (W.length - 1)) (by omega)
    omega
set_option maxRecDepth 100000 in
set_option maxHeartbeats 800000 in
theorem zs_X10_readsCommand {d : Nat} {s : az_S} (hd : 6 ≤ d) {n : Nat} {T : Nat → Int} (hT : zTy s n T) {ix : Nat} (hi : ix ≤ n) (hat : s 34 18 = ((ix : Nat) : Int)) {c : Nat} (hc : s 34 19 = ((c : Nat) : Int)) (hc9 : c ≤ 10) : az_R d am_m_X10_readsCommand 0 (az_ini (am_mL am_m_X10_readsCommand) [az_r 34]) [] (s) (zRB T ix c s) := by
  have h60 : n ≤ 60 := hT.2.1
  refine az_to 0 (pc2 := 0) (lv2 := [some (az_r 34), none, none]) (st2 := []) (s2 := s) rfl ?_
  refine az_to 1 (pc2 := 1) (lv2 := [some (az_r 34), none, none]) (st2 := [az_r 34]) (s2 := s) rfl ?_
  refine az_cl (m2 := am_m_X10_isWord) (as := [az_r 34]) (rest := []) 4 rfl rfl ⟨rfl, rfl⟩ (by omega) (zs_X10_isWord (s := s)  (by omega) hT hi hat) (fun v9 tw q9 => ?_) (fun E tw q9 => by cases q9.1)
  obtain ⟨o9, qw1, qw2, qw3, qw4⟩ := q9
  cases o9
  have hTw : zTy tw n T := ⟨by rw [qw3 17 (by decide) (by decide)]; exact hT.1, hT.2.1, fun k hk => by rw [qw4 41 (by decide)]; exact hT.2.2.1 k hk, hT.2.2.2⟩
  have hcw : tw 34 19 = ((c : Nat) : Int) := by rw [qw3 19 (by decide) (by decide)]; exact hc
  refine az_to 0 (pc2 := 4) (lv2 := [some (az_r 34), none, none]) (st2 := [az_i (az_b (0 ≤ zwi T ix))]) (s2 := tw) rfl ?_
  refine az_ifbn 9 7 rfl (by decide) (fun h1 => ?_) (fun h1 => ?_)
  · have h1 : 0 ≤ zwi T ix := h1
    have h0 : 0 ≤ zwi T ix := h1
    have hwy := zwi_y h0
    have hqw := qw1 h0
    have hxn := hTw.2.2.2
    refine az_to 3 (pc2 := 14) (lv2 := [some (az_r 34), none, none]) (st2 := [az_i (tw 34 19), az_i (5)]) (s2 := tw) rfl ?_
    refine az_to 0 (pc2 := 14) (lv2 := [some (az_r 34), none, none]) (st2 := [az_i (((c : Nat) : Int)), az_i (5)]) (s2 := tw) (by rw [show tw 34 19 = ((c : Nat) : Int) from hcw]; rfl) ?_
    refine az_to 4 (pc2 := 20) (lv2 := [some (az_r 34), some (az_i ((5 * ((c : Nat) : Int)))), none]) (st2 := [az_i (tw 34 20)]) (s2 := tw) rfl ?_
    refine az_to 0 (pc2 := 20) (lv2 := [some (az_r 34), some (az_i ((5 * ((c : Nat) : Int)))), none]) (st2 := [az_i (zwi T ix)]) (s2 := tw) (by rw [show tw 34 20 = zwi T ix from hqw.1]; rfl) ?_
    refine az_to 5 (pc2 := 27) (lv2 := [some (az_r 34), some (az_i ((5 * ((c : Nat) : Int)))), some (az_i (zwi T ix))]) (st2 := [az_i (zwi T ix), az_i ((5 * ((c : Nat) : Int))), az_r 42]) (s2 := tw) rfl ?_
    refine az_st_i 28 rfl rfl (by constructor <;> omega) ⟨by decide, rfl⟩ ?_
    refine az_to 3 (pc2 := 33) (lv2 := [some (az_r 34), some (az_i ((5 * ((c : Nat) : Int)))), some (az_i (zwi T ix))]) (st2 := [az_i ((am_up tw 42 (5 * c) (zwi T ix)) 34 19), az_r 34]) (s2 := am_up tw 42 (5 * c) (zwi T ix)) rfl ?_
    refine az_to 0 (pc2 := 33) (lv2 := [some (az_r 34), some (az_i ((5 * ((c : Nat) : Int)))), some (az_i (zwi T ix))]) (st2 := [az_i (((c : Nat) : Int)), az_r 34]) (s2 := am_up tw 42 (5 * c) (zwi T ix)) (by rw [show (am_up tw 42 (5 * c) (zwi T ix)) 34 19 = ((c : Nat) : Int) from hcw]; rfl) ?_
    refine az_to 4 (pc2 := 39) (lv2 := [some (az_r 34), some (az_i ((5 * ((c : Nat) : Int)))), some (az_i (zwi T ix))]) (st2 := [az_i (zwi T ix)]) (s2 := am_up (am_up tw 42 (5 * c) (zwi T ix)) 34 19 ((((c : Nat) : Int) + 1))) rfl ?_
    have h2 : (zwi T ix < 0 ∨ 12 < zwi T ix) ∨ zwi T ix = 0 ∨ zwi T ix = 1 ∨ zwi T ix = 2 ∨ zwi T ix = 3 ∨ zwi T ix = 4 ∨ zwi T ix = 5 ∨ zwi T ix = 6 ∨ zwi T ix = 7 ∨ zwi T ix = 8 ∨ zwi T ix = 9 ∨ zwi T ix = 10 ∨ zwi T ix = 11 ∨ zwi T ix = 12 := by omega
    rcases h2 with h2 | h2 | h2 | h2 | h2 | h2 | h2 | h2 | h2 | h2 | h2 | h2 | h2 | h2
    · refine az_swd 287 rfl (by first | assumption | exact ⟨by omega, by omega⟩) h2 (by decide) ?_
      exact absurd h2 (by omega)
    · refine az_swc 104 rfl (by first | assumption | exact ⟨by omega, by omega⟩) (by omega) (off := 65) (by rw [h2]; rfl) (by decide) ?_
      have hW : (zWd (zwi T ix).toNat).length = 7 := by rw [h2]; decide
      have hRs : zRs (zwi T ix).toNat = zRs 0 := by rw [h2]; rfl
      have hatw : tw 34 18 = ((ix + 7 : Nat) : Int) := by rw [hqw.2, hW]
      have hxle : ix + 7 ≤ n := by have := zal_n hTw hi (let ⟨tx, _, _, hp, e⟩ := zWd_ok _ hwy.1; ⟨tx.toList, rfl, hp, e⟩) hwy.2; omega
      refine az_to 5 (pc2 := 109) (lv2 := [some (az_r 34), some (az_i ((5 * ((c : Nat) : Int)))), some (az_i (zwi T ix))]) (st2 := [az_i (((5 * ((c : Nat) : Int)) + 1)), az_i (1), az_r 34]) (s2 := am_up (am_up tw 42 (5 * c) (zwi T ix)) 34 19 ((((c : Nat) : Int) + 1))) rfl ?_
      refine az_cl (m2 := am_m_X10_isNumber) (as := [az_r 34, az_i (1), az_i (((5 * ((c : Nat) : Int)) + 1))]) (rest := []) 112 rfl rfl ⟨rfl, rfl⟩ (by omega) (zs_X10_isNumber_1 (s := am_up (am_up tw 42 (5 * c) (zwi T ix)) 34 19 ((((c : Nat) : Int) + 1))) (pl := ((5 * c) + 1)) (ix := (ix + 7)) (by omega) hTw (by omega) hatw (by omega)) (fun v3 t3 q3 => ?_) (fun E t3 q3 => by cases q3.1)
      obtain ⟨o3, qa3, qv3, qb3, qc3⟩ := q3
      cases o3
      have hT3 := zTy_t (s := am_up (am_up tw 42 (5 * c) (zwi T ix)) 34 19 ((((c : Nat) : Int) + 1))) hTw qc3
      refine az_to 0 (pc2 := 112) (lv2 := [some (az_r 34), some (az_i ((5 * ((c : Nat) : Int)))), some (az_i (zwi T ix))]) (st2 := [az_i (az_b (zdg (T (ix + 7))))]) (s2 := t3) rfl ?_
      refine az_ifbe 152 115 rfl (by decide) (fun h4 => ?_) (fun h4 => ?_)
      · have h4 : ¬ (zdg (T (ix + 7))) := h4
        refine az_to 1 (pc2 := 153) (lv2 := [some (az_r 34), some (az_i ((5 * ((c : Nat) : Int)))), some (az_i (zwi T ix))]) (st2 := [az_i (0)]) (s2 := t3) rfl ?_
        refine az_retB rfl rfl (by first | decide | omega | exact Or.inl rfl | exact Or.inr rfl) ?_
        have hm : zms T (zRs (zwi T ix).toNat) (ix + (zWd (zwi T ix).toNat).length) = ((ix + 7), false, []) := by
          rw [hRs, zRs_s.1, hW, zms_d1, if_neg h4]
        exact zRB_n h0 hm (by rw [qa3, znw_n h4]) (fun J hJ => by rw [qb3 _ (by omega)]; simp only [am_up]; simp; rw [if_neg (by omega)]; rw [qw4 42 (by decide)]) (fun J J18 J19 J20 => by rw [qc3.1 J J18]; simp [am_up, J19]; exact qw3 J J18 J20) (fun J J34 J42 => by rw [qc3.2 J J34 J42]; funext b; simp [am_up, J34, J42]; rw [qw4 J J34])
      · have h4 : zdg (T (ix + 7)) := h4
        have hat3 : t3 34 18 = ((((ix + 7) + 1) : Nat) : Int) := by rw [qa3, znw_1 h4]
        have hn3 : (ix + 7) < n := zTn hTw (by omega)
        refine az_to 5 (pc2 := 120) (lv2 := [some (az_r 34), some (az_i ((5 * ((c : Nat) : Int)))), some (az_i (zwi T ix))]) (st2 := [az_i (((5 * ((c : Nat) : Int)) + 2)), az_i (1), az_r 34]) (s2 := t3) rfl ?_
        refine az_cl (m2 := am_m_X10_isNext) (as := [az_r 34, az_i (1), az_i (((5 * ((c : Nat) : Int)) + 2))]) (rest := []) 123 rfl rfl ⟨rfl, rfl⟩ (by omega) (zs_X10_isNext_1 (s := t3) (pl := ((5 * c) + 2)) (ix := ((ix + 7) + 1)) (by omega) hT3 (by omega) hat3 (by omega)) (fun v5 t5 q5 => ?_) (fun E t5 q5 => by cases q5.1)
        obtain ⟨o5, qa5, qv5, qb5, qc5⟩ := q5
        cases o5
        have hT5 := zTy_t (s := t3) hT3 qc5
        refine az_to 0 (pc2 := 123) (lv2 := [some (az_r 34), some (az_i ((5 * ((c : Nat) : Int)))), some (az_i (zwi T ix))]) (st2 := [az_i (az_b (T ((ix + 7) + 1) = 32 ∧ zdg (T (((ix + 7) + 1) + 1))))]) (s2 := t5) rfl ?_
        refine az_ifbe 152 126 rfl (by decide) (fun h6 => ?_) (fun h6 => ?_)
        · have h6 : ¬ (T ((ix + 7) + 1) = 32 ∧ zdg (T (((ix + 7) + 1) + 1))) := h6
          refine az_to 1 (pc2 := 153) (lv2 := [some (az_r 34), some (az_i ((5 * ((c : Nat) : Int)))), some (az_i (zwi T ix))]) (st2 := [az_i (0)]) (s2 := t5) rfl ?_
          refine az_retB rfl rfl (by first | decide | omega | exact Or.inl rfl | exact Or.inr rfl) ?_
          by_cases hsp : T ((ix + 7) + 1) = 32
          · have hm : zms T (zRs (zwi T ix).toNat) (ix + (zWd (zwi T ix).toNat).length) = (((ix + 7) + 1) + 1, false, [zvl T (ix + 7) 1]) := by
              rw [hRs, zRs_s.1, hW, zms_d1, if_pos h4, zms_sp, if_pos hsp, zms_d1, if_neg (fun w => h6 ⟨hsp, w⟩)]
            exact zRB_n h0 hm (by rw [qa5, if_pos hsp, znw_n (fun w => h6 ⟨hsp, w⟩)]) (fun J hJ => by rw [qb5 _ (by omega), qb3 _ (by omega)]; simp only [am_up]; simp; rw [if_neg (by omega)]; rw [qw4 42 (by decide)]) (fun J J18 J19 J20 => by rw [qc5.1 J J18, qc3.1 J J18]; simp [am_up, J19]; exact qw3 J J18 J20) (fun J J34 J42 => by rw [qc5.2 J J34 J42, qc3.2 J J34 J42]; funext b; simp [am_up, J34, J42]; rw [qw4 J J34])
          · have hm : zms T (zRs (zwi T ix).toNat) (ix + (zWd (zwi T ix).toNat).length) = (((ix + 7) + 1), false, [zvl T (ix + 7) 1]) := by
              rw [hRs, zRs_s.1, hW, zms_d1, if_pos h4, zms_sp, if_neg hsp]
            exact zRB_n h0 hm (by rw [qa5, if_neg hsp]) (fun J hJ => by rw [qb5 _ (by omega), qb3 _ (by omega)]; simp only [am_up]; simp; rw [if_neg (by omega)]; rw [qw4 42 (by decide)]) (fun J J18 J19 J20 => by rw [qc5.1 J J18, qc3.1 J J18]; simp [am_up, J19]; exact qw3 J J18 J20) (fun J J34 J42 => by rw [qc5.2 J J34 J42, qc3.2 J J34 J42]; funext b; simp [am_up, J34, J42]; rw [qw4 J J34])
        · have h6 : T ((ix + 7) + 1) = 32 ∧ zdg (T (((ix + 7) + 1) + 1)) := h6
          have hat5 : t5 34 18 = ((((((ix + 7) + 1) + 1) + 1) : Nat) : Int) := by rw [qa5, if_pos h6.1, znw_1 h6.2]
          have hn5 : ((ix + 7) + 1) + 1 < n := zTn hTw (by omega)
          refine az_to 5 (pc2 := 131) (lv2 := [some (az_r 34), some (az_i ((5 * ((c : Nat) : Int)))), some (az_i (zwi T ix))]) (st2 := [az_i (((5 * ((c : Nat) : Int)) + 3)), az_i (1), az_r 34]) (s2 := t5) rfl ?_
          refine az_cl (m2 := am_m_X10_isNext) (as := [az_r 34, az_i (1), az_i (((5 * ((c : Nat) : Int)) + 3))]) (rest := []) 134 rfl rfl ⟨rfl, rfl⟩ (by omega) (zs_X10_isNext_1 (s := t5) (pl := ((5 * c) + 3)) (ix := ((((ix + 7) + 1) + 1) + 1)) (by omega) hT5 (by omega) hat5 (by omega)) (fun v7 t7 q7 => ?_) (fun E t7 q7 => by cases q7.1)
          obtain ⟨o7, qa7, qv7, qb7, qc7⟩ := q7
          cases o7
          have hT7 := zTy_t (s := t5) hT5 qc7
          refine az_to 0 (pc2 := 134) (lv2 := [some (az_r 34), some (az_i ((5 * ((c : Nat) : Int)))), some (az_i (zwi T ix))]) (st2 := [az_i (az_b (T ((((ix + 7) + 1) + 1) + 1) = 32 ∧ zdg (T (((((ix + 7) + 1) + 1) + 1) + 1))))]) (s2 := t7) rfl ?_
          refine az_ifbe 152 137 rfl (by decide) (fun h8 => ?_) (fun h8 => ?_)
          · have h8 : ¬ (T ((((ix + 7) + 1) + 1) + 1) = 32 ∧ zdg (T (((((ix + 7) + 1) + 1) + 1) + 1))) := h8
            refine az_to 1 (pc2 := 153) (lv2 := [some (az_r 34), some (az_i ((5 * ((c : Nat) : Int)))), some (az_i (zwi T ix))]) (st2 := [az_i (0)]) (s2 := t7) rfl ?_
            refine az_retB rfl rfl (by first | decide | omega | exact Or.inl rfl | exact Or.inr rfl) ?_
            by_cases hsp : T ((((ix + 7) + 1) + 1) + 1) = 32
            · have hm : zms T (zRs (zwi T ix).toNat) (ix + (zWd (zwi T ix).toNat).length) = (((((ix + 7) + 1) + 1) + 1) + 1, false, [zvl T (ix + 7) 1, zvl T (((ix + 7) + 1) + 1) 1]) := by
                rw [hRs, zRs_s.1, hW, zms_d1, if_pos h4, zms_sp, if_pos h6.1, zms_d1, if_pos h6.2, zms_sp, if_pos hsp, zms_d1, if_neg (fun w => h8 ⟨hsp, w⟩)]
              exact zRB_n h0 hm (by rw [qa7, if_pos hsp, znw_n (fun w => h8 ⟨hsp, w⟩)]) (fun J hJ => by rw [qb7 _ (by omega), qb5 _ (by omega), qb3 _ (by omega)]; simp only [am_up]; simp; rw [if_neg (by omega)]; rw [qw4 42 (by decide)]) (fun J J18 J19 J20 => by rw [qc7.1 J J18, qc5.1 J J18, qc3.1 J J18]; simp [am_up, J19]; exact qw3 J J18 J20) (fun J J34 J42 => by rw [qc7.2 J J34 J42, qc5.2 J J34 J42, qc3.2 J J34 J42]; funext b; simp [am_up, J34, J42]; rw [qw4 J J34])
            · have hm : zms T (zRs (zwi T ix).toNat) (ix + (zWd (zwi T ix).toNat).length) = (((((ix + 7) + 1) + 1) + 1), false, [zvl T (ix + 7) 1, zvl T (((ix + 7) + 1) + 1) 1]) := by
                rw [hRs, zRs_s.1, hW, zms_d1, if_pos h4, zms_sp, if_pos h6.1, zms_d1, if_pos h6.2, zms_sp, if_neg hsp]
              exact zRB_n h0 hm (by rw [qa7, if_neg hsp]) (fun J hJ => by rw [qb7 _ (by omega), qb5 _ (by omega), qb3 _ (by omega)]; simp only [am_up]; simp; rw [if_neg (by omega)]; rw [qw4 42 (by decide)]) (fun J J18 J19 J20 => by rw [qc7.1 J J18, qc5.1 J J18, qc3.1 J J18]; simp [am_up, J19]; exact qw3 J J18 J20) (fun J J34 J42 => by rw [qc7.2 J J34 J42, qc5.2 J J34 J42, qc3.2 J J34 J42]; funext b; simp [am_up, J34, J42]; rw [qw4 J J34])
          · have h8 : T ((((ix + 7) + 1) + 1) + 1) = 32 ∧ zdg (T (((((ix + 7) + 1) + 1) + 1) + 1)) := h8
            have hat7 : t7 34 18 = ((((((((ix + 7) + 1) + 1) + 1) + 1) + 1) : Nat) : Int) := by rw [qa7, if_pos h8.1, znw_1 h8.2]
            have hn7 : ((((ix + 7) + 1) + 1) + 1) + 1 < n := zTn hTw (by omega)
            refine az_to 5 (pc2 := 142) (lv2 := [some (az_r 34), some (az_i ((5 * ((c : Nat) : Int)))), some (az_i (zwi T ix))]) (st2 := [az_i (((5 * ((c : Nat) : Int)) + 4)), az_i (1), az_r 34]) (s2 := t7) rfl ?_
            refine az_cl (m2 := am_m_X10_isNext) (as := [az_r 34, az_i (1), az_i (((5 * ((c : Nat) : Int)) + 4))]) (rest := []) 145 rfl rfl ⟨rfl, rfl⟩ (by omega) (zs_X10_isNext_1 (s := t7) (pl := ((5 * c) + 4)) (ix := ((((((ix + 7) + 1) + 1) + 1) + 1) + 1)) (by omega) hT7 (by omega) hat7 (by omega)) (fun v9 t9 q9 => ?_) (fun E t9 q9 => by cases q9.1)
            obtain ⟨o9, qa9, qv9, qb9, qc9⟩ := q9
            cases o9
            have hT9 := zTy_t (s := t7) hT7 qc9
            refine az_to 0 (pc2 := 145) (lv2 := [some (az_r 34), some (az_i ((5 * ((c : Nat) : Int)))), some (az_i (zwi T ix))]) (st2 := [az_i (az_b (T ((((((ix + 7) + 1) + 1) + 1) + 1) + 1) = 32 ∧ zdg (T (((((((ix + 7) + 1) + 1) + 1) + 1) + 1) + 1))))]) (s2 := t9) rfl ?_
            refine az_ifbe 152 148 rfl (by decide) (fun h10 => ?_) (fun h10 => ?_)
            · have h10 : ¬ (T ((((((ix + 7) + 1) + 1) + 1) + 1) + 1) = 32 ∧ zdg (T (((((((ix + 7) + 1) + 1) + 1) + 1) + 1) + 1))) := h10
              refine az_to 1 (pc2 := 153) (lv2 := [some (az_r 34), some (az_i ((5 * ((c : Nat) : Int)))), some (az_i (zwi T ix))]) (st2 := [az_i (0)]) (s2 := t9) rfl ?_
              refine az_retB rfl rfl (by first | decide | omega | exact Or.inl rfl | exact Or.inr rfl) ?_
              by_cases hsp : T ((((((ix + 7) + 1) + 1) + 1) + 1) + 1) = 32
              · have hm : zms T (zRs (zwi T ix).toNat) (ix + (zWd (zwi T ix).toNat).length) = (((((((ix + 7) + 1) + 1) + 1) + 1) + 1) + 1, false, [zvl T (ix + 7) 1, zvl T (((ix + 7) + 1) + 1) 1, zvl T (((((ix + 7) + 1) + 1) + 1) + 1) 1]) := by
                  rw [hRs, zRs_s.1, hW, zms_d1, if_pos h4, zms_sp, if_pos h6.1, zms_d1, if_pos h6.2, zms_sp, if_pos h8.1, zms_d1, if_pos h8.2, zms_sp, if_pos hsp, zms_d1, if_neg (fun w => h10 ⟨hsp, w⟩)]
                exact zRB_n h0 hm (by rw [qa9, if_pos hsp, znw_n (fun w => h10 ⟨hsp, w⟩)]) (fun J hJ => by rw [qb9 _ (by omega), qb7 _ (by omega), qb5 _ (by omega), qb3 _ (by omega)]; simp only [am_up]; simp; rw [if_neg (by omega)]; rw [qw4 42 (by decide)]) (fun J J18 J19 J20 => by rw [qc9.1 J J18, qc7.1 J J18, qc5.1 J J18, qc3.1 J J18]; simp [am_up, J19]; exact qw3 J J18 J20) (fun J J34 J42 => by rw [qc9.2 J J34 J42, qc7.2 J J34 J42, qc5.2 J J34 J42, qc3.2 J J34 J42]; funext b; simp [am_up, J34, J42]; rw [qw4 J J34])
              · have hm : zms T (zRs (zwi T ix).toNat) (ix + (zWd (zwi T ix).toNat).length) = (((((((ix + 7) + 1) + 1) + 1) + 1) + 1), false, [zvl T (ix + 7) 1, zvl T (((ix + 7) + 1) + 1) 1, zvl T (((((ix + 7) + 1) + 1) + 1) + 1) 1]) := by
                  rw [hRs, zRs_s.1, hW, zms_d1, if_pos h4, zms_sp, if_pos h6.1, zms_d1, if_pos h6.2, zms_sp, if_pos h8.1, zms_d1, if_pos h8.2, zms_sp, if_neg hsp]
                exact zRB_n h0 hm (by rw [qa9, if_neg hsp]) (fun J hJ => by rw [qb9 _ (by omega), qb7 _ (by omega), qb5 _ (by omega), qb3 _ (by omega)]; simp only [am_up]; simp; rw [if_neg (by omega)]; rw [qw4 42 (by decide)]) (fun J J18 J19 J20 => by rw [qc9.1 J J18, qc7.1 J J18, qc5.1 J J18, qc3.1 J J18]; simp [am_up, J19]; exact qw3 J J18 J20) (fun J J34 J42 => by rw [qc9.2 J J34 J42, qc7.2 J J34 J42, qc5.2 J J34 J42, qc3.2 J J34 J42]; funext b; simp [am_up, J34, J42]; rw [qw4 J J34])
            · have h10 : T ((((((ix + 7) + 1) + 1) + 1) + 1) + 1) = 32 ∧ zdg (T (((((((ix + 7) + 1) + 1) + 1) + 1) + 1) + 1)) := h10
              have hat9 : t9 34 18 = ((((((((((ix + 7) + 1) + 1) + 1) + 1) + 1) + 1) + 1) : Nat) : Int) := by rw [qa9, if_pos h10.1, znw_1 h10.2]
              have hn9 : ((((((ix + 7) + 1) + 1) + 1) + 1) + 1) + 1 < n := zTn hTw (by omega)
              refine az_to 2 (pc2 := 153) (lv2 := [some (az_r 34), some (az_i ((5 * ((c : Nat) : Int)))), some (az_i (zwi T ix))]) (st2 := [az_i (1)]) (s2 := t9) rfl ?_
              refine az_retB rfl rfl (by first | decide | omega | exact Or.inl rfl | exact Or.inr rfl) ?_
              have hm : zms T (zRs (zwi T ix).toNat) (ix + (zWd (zwi T ix).toNat).length) = (((((((ix + 7) + 1) + 1) + 1) + 1) + 1) + 1 + 1, true, [zvl T (ix + 7) 1, zvl T (((ix + 7) + 1) + 1) 1, zvl T (((((ix + 7) + 1) + 1) + 1) + 1) 1, zvl T (((((((ix + 7) + 1) + 1) + 1) + 1) + 1) + 1) 1]) := by
                rw [hRs, zRs_s.1, hW, zms_d1, if_pos h4, zms_sp, if_pos h6.1, zms_d1, if_pos h6.2, zms_sp, if_pos h8.1, zms_d1, if_pos h8.2, zms_sp, if_pos h10.1, zms_d1, if_pos h10.2, zms_0]
              exact zRB_y h0 hm (by rw [qa9, if_pos h10.1, znw_1 h10.2]) (by rw [qc9.1 19 (by decide), qc7.1 19 (by decide), qc5.1 19 (by decide), qc3.1 19 (by decide)]; rfl) (by rw [qb9 _ (by omega), qb7 _ (by omega), qb5 _ (by omega), qb3 _ (by omega)]; simp [am_up]) (fun q hq => match q, hq with
                | 0, _ => by
                  show t9 42 (5 * c + 1) = zvl T (ix + 7) 1
                  rw [qb9 _ (by omega), qb7 _ (by omega), qb5 _ (by omega), qv3 h4, znw_1 h4]
                | 1, _ => by
                  show t9 42 (5 * c + 2) = zvl T (((ix + 7) + 1) + 1) 1
                  rw [qb9 _ (by omega), qb7 _ (by omega), qv5 h6, znw_1 h6.2]
                | 2, _ => by
                  show t9 42 (5 * c + 3) = zvl T (((((ix + 7) + 1) + 1) + 1) + 1) 1
                  rw [qb9 _ (by omega), qv7 h8, znw_1 h8.2]
                | 3, _ => by
                  show t9 42 (5 * c + 4) = zvl T (((((((ix + 7) + 1) + 1) + 1) + 1) + 1) + 1) 1
                  rw [qv9 h10, znw_1 h10.2]
                | q + 4, hq => absurd (show q + 4 < 4 from hq) (by omega)) (fun J hJ => by rw [qb9 _ (by omega), qb7 _ (by omega), qb5 _ (by omega), qb3 _ (by omega)]; simp only [am_up]; simp; rw [if_neg (by omega)]; rw [qw4 42 (by decide)]) (fun J J18 J19 J20 => by rw [qc9.1 J J18, qc7.1 J J18, qc5.1 J J18, qc3.1 J J18]; simp [am_up, J19]; exact qw3 J J18 J20) (fun J J34 J42 => by rw [qc9.2 J J34 J42, qc7.2 J J34 J42, qc5.2 J J34 J42, qc3.2 J J34 J42]; funext b; simp [am_up, J34, J42]; rw [qw4 J J34])
    · refine az_swc 154 rfl (by first | assumption | exact ⟨by omega, by omega⟩) (by omega) (off := 115) (by rw [h2]; rfl) (by decide) ?_
      have hW : (zWd (zwi T ix).toNat).length = 5 := by rw [h2]; decide
      have hRs : zRs (zwi T ix).toNat = zRs 1 := by rw [h2]; rfl
      have hatw : tw 34 18 = ((ix + 5 : Nat) : Int) := by rw [hqw.2, hW]
      have hxle : ix + 5 ≤ n := by have := zal_n hTw hi (let ⟨tx, _, _, hp, e⟩ := zWd_ok _ hwy.1; ⟨tx.toList, rfl, hp, e⟩) hwy.2; omega
      refine az_to 1 (pc2 := 155) (lv2 := [some (az_r 34), some (az_i ((5 * ((c : Nat) : Int)))), some (az_i (zwi T ix))]) (st2 := [az_i (1)]) (s2 := am_up (am_up tw 42 (5 * c) (zwi T ix)) 34 19 ((((c : Nat) : Int) + 1))) rfl ?_
      refine az_retB rfl rfl (by first | decide | omega | exact Or.inl rfl | exact Or.inr rfl) ?_
      have hm : zms T (zRs (zwi T ix).toNat) (ix + (zWd (zwi T ix).toNat).length) = (ix + 5, true, []) := by
        rw [hRs, zRs_s.2.1, hW, zms_0]
      exact zRB_y h0 hm (hatw) (by rfl) (by simp [am_up]) (fun q hq => absurd (show q < 0 from hq) (by omega)) (fun J hJ => by simp only [am_up]; simp; rw [if_neg (by omega)]; rw [qw4 42 (by decide)]) (fun J J18 J19 J20 => by simp [am_up, J19]; exact qw3 J J18 J20) (fun J J34 J42 => by funext b; simp [am_up, J34, J42]; rw [qw4 J J34])
    · refine az_swc 156 rfl (by first | assumption | exact ⟨by omega, by omega⟩) (by omega) (off := 117) (by rw [h2]; rfl) (by decide) ?_
      have hW : (zWd (zwi T ix).toNat).length = 5 := by rw [h2]; decide
      have hRs : zRs (zwi T ix).toNat = zRs 2 := by rw [h2]; rfl
      have hatw : tw 34 18 = ((ix + 5 : Nat) : Int) := by rw [hqw.2, hW]
      have hxle : ix + 5 ≤ n := by have := zal_n hTw hi (let ⟨tx, _, _, hp, e⟩ := zWd_ok _ hwy.1; ⟨tx.toList, rfl, hp, e⟩) hwy.2; omega
      refine az_to 5 (pc2 := 161) (lv2 := [some (az_r 34), some (az_i ((5 * ((c : Nat) : Int)))), some (az_i (zwi T ix))]) (st2 := [az_i (((5 * ((c : Nat) : Int)) + 1)), az_i (1), az_r 34]) (s2 := am_up (am_up tw 42 (5 * c) (zwi T ix)) 34 19 ((((c : Nat) : Int) + 1))) rfl ?_
      refine az_cl (m2 := am_m_X10_isNumber) (as := [az_r 34, az_i (1), az_i (((5 * ((c : Nat) : Int)) + 1))]) (rest := []) 164 rfl rfl ⟨rfl, rfl⟩ (by omega) (zs_X10_isNumber_1 (s := am_up (am_up tw 42 (5 * c) (zwi T ix)) 34 19 ((((c : Nat) : Int) + 1))) (pl := ((5 * c) + 1)) (ix := (ix + 5)) (by omega) hTw (by omega) hatw (by omega)) (fun v11 t11 q11 => ?_) (fun E t11 q11 => by cases q11.1)
      obtain ⟨o11, qa11, qv11, qb11, qc11⟩ := q11
      cases o11
      have hT11 := zTy_t (s := am_up (am_up tw 42 (5 * c) (zwi T ix)) 34 19 ((((c : Nat) : Int) + 1))) hTw qc11
      refine az_to 0 (pc2 := 164) (lv2 := [some (az_r 34), some (az_i ((5 * ((c : Nat) : Int)))), some (az_i (zwi T ix))]) (st2 := [az_i (az_b (zdg (T (ix + 5))))]) (s2 := t11) rfl ?_
      refine az_ifbe 182 167 rfl (by decide) (fun h12 => ?_) (fun h12 => ?_)
      · have h12 : ¬ (zdg (T (ix + 5))) := h12
        refine az_to 1 (pc2 := 183) (lv2 := [some (az_r 34), some (az_i ((5 * ((c : Nat) : Int)))), some (az_i (zwi T ix))]) (st2 := [az_i (0)]) (s2 := t11) rfl ?_
        refine az_retB rfl rfl (by first | decide | omega | exact Or.inl rfl | exact Or.inr rfl) ?_
        have hm : zms T (zRs (zwi T ix).toNat) (ix + (zWd (zwi T ix).toNat).length) = ((ix + 5), false, []) := by
          rw [hRs, zRs_s.2.2.1, hW, zms_d1, if_neg h12]
        exact zRB_n h0 hm (by rw [qa11, znw_n h12]) (fun J hJ => by rw [qb11 _ (by omega)]; simp only [am_up]; simp; rw [if_neg (by omega)]; rw [qw4 42 (by decide)]) (fun J J18 J19 J20 => by rw [qc11.1 J J18]; simp [am_up, J19]; exact qw3 J J18 J20) (fun J J34 J42 => by rw [qc11.2 J J34 J42]; funext b; simp [am_up, J34, J42]; rw [qw4 J J34])
      · have h12 : zdg (T (ix + 5)) := h12
        have hat11 : t11 34 18 = ((((ix + 5) + 1) : Nat) : Int) := by rw [qa11, znw_1 h12]
        have hn11 : (ix + 5) < n := zTn hTw (by omega)
        refine az_to 5 (pc2 := 172) (lv2 := [some (az_r 34), some (az_i ((5 * ((c : Nat) : Int)))), some (az_i (zwi T ix))]) (st2 := [az_i (((5 * ((c : Nat) : Int)) + 2)), az_i (2), az_r 34]) (s2 := t11) rfl ?_
        refine az_cl (m2 := am_m_X10_isNext) (as := [az_r 34, az_i (2), az_i (((5 * ((c : Nat) : Int)) + 2))]) (rest := []) 175 rfl rfl ⟨rfl, rfl⟩ (by omega) (zs_X10_isNext_2 (s := t11) (pl := ((5 * c) + 2)) (ix := ((ix + 5) + 1)) (by omega) hT11 (by omega) hat11 (by omega)) (fun v13 t13 q13 => ?_) (fun E t13 q13 => by cases q13.1)
        obtain ⟨o13, qa13, qv13, qb13, qc13⟩ := q13
        cases o13
        have hT13 := zTy_t (s := t11) hT11 qc13
        refine az_to 0 (pc2 := 175) (lv2 := [some (az_r 34), some (az_i ((5 * ((c : Nat) : Int)))), some (az_i (zwi T ix))]) (st2 := [az_i (az_b (T ((ix + 5) + 1) = 32 ∧ zdg (T (((ix + 5) + 1) + 1))))]) (s2 := t13) rfl ?_
        refine az_ifbe 182 178 rfl (by decide) (fun h14 => ?_) (fun h14 => ?_)
        · have h14 : ¬ (T ((ix + 5) + 1) = 32 ∧ zdg (T (((ix + 5) + 1) + 1))) := h14
          refine az_to 1 (pc2 := 183) (lv2 := [some (az_r 34), some (az_i ((5 * ((c : Nat) : Int)))), some (az_i (zwi T ix))]) (st2 := [az_i (0)]) (s2 := t13) rfl ?_
          refine az_retB rfl rfl (by first | decide | omega | exact Or.inl rfl | exact Or.inr rfl) ?_
          by_cases hsp : T ((ix + 5) + 1) = 32
          · have hm : zms T (zRs (zwi T ix).toNat) (ix + (zWd (zwi T ix).toNat).length) = (((ix + 5) + 1) + 1, false, [zvl T (ix + 5) 1]) := by
              rw [hRs, zRs_s.2.2.1, hW, zms_d1, if_pos h12, zms_sp, if_pos hsp, zms_d2, if_neg (fun w => h14 ⟨hsp, w⟩)]
            exact zRB_n h0 hm (by rw [qa13, if_pos hsp, znw_n (fun w => h14 ⟨hsp, w⟩)]) (fun J hJ => by rw [qb13 _ (by omega), qb11 _ (by omega)]; simp only [am_up]; simp; rw [if_neg (by omega)]; rw [qw4 42 (by decide)]) (fun J J18 J19 J20 => by rw [qc13.1 J J18, qc11.1 J J18]; simp [am_up, J19]; exact qw3 J J18 J20) (fun J J34 J42 => by rw [qc13.2 J J34 J42, qc11.2 J J34 J42]; funext b; simp [am_up, J34, J42]; rw [qw4 J J34])
          · have hm : zms T (zRs (zwi T ix).toNat) (ix + (zWd (zwi T ix).toNat).length) = (((ix + 5) + 1), false, [zvl T (ix + 5) 1]) := by
              rw [hRs, zRs_s.2.2.1, hW, zms_d1, if_pos h12, zms_sp, if_neg hsp]
            exact zRB_n h0 hm (by rw [qa13, if_neg hsp]) (fun J hJ => by rw [qb13 _ (by omega), qb11 _ (by omega)]; simp only [am_up]; simp; rw [if_neg (by omega)]; rw [qw4 42 (by decide)]) (fun J J18 J19 J20 => by rw [qc13.1 J J18, qc11.1 J J18]; simp [am_up, J19]; exact qw3 J J18 J20) (fun J J34 J42 => by rw [qc13.2 J J34 J42, qc11.2 J J34 J42]; funext b; simp [am_up, J34, J42]; rw [qw4 J J34])
        · have h14 : T ((ix + 5) + 1) = 32 ∧ zdg (T (((ix + 5) + 1) + 1)) := h14
          refine az_to 2 (pc2 := 183) (lv2 := [some (az_r 34), some (az_i ((5 * ((c : Nat) : Int)))), some (az_i (zwi T ix))]) (st2 := [az_i (1)]) (s2 := t13) rfl ?_
          refine az_retB rfl rfl (by first | decide | omega | exact Or.inl rfl | exact Or.inr rfl) ?_
          have hm : zms T (zRs (zwi T ix).toNat) (ix + (zWd (zwi T ix).toNat).length) = (((ix + 5) + 1) + 1 + znw T 2 (((ix + 5) + 1) + 1), true, [zvl T (ix + 5) 1, zvl T (((ix + 5) + 1) + 1) (znw T 2 (((ix + 5) + 1) + 1))]) := by
            rw [hRs, zRs_s.2.2.1, hW, zms_d1, if_pos h12, zms_sp, if_pos h14.1, zms_d2, if_pos h14.2, zms_0]
          exact zRB_y h0 hm (by rw [qa13, if_pos h14.1]) (by rw [qc13.1 19 (by decide), qc11.1 19 (by decide)]; rfl) (by rw [qb13 _ (by omega), qb11 _ (by omega)]; simp [am_up]) (fun q hq => match q, hq with
            | 0, _ => by
              show t13 42 (5 * c + 1) = zvl T (ix + 5) 1
              rw [qb13 _ (by omega), qv11 h12, znw_1 h12]
            | 1, _ => by
              show t13 42 (5 * c + 2) = zvl T (((ix + 5) + 1) + 1) (znw T 2 (((ix + 5) + 1) + 1))
              rw [qv13 h14]
            | q + 2, hq => absurd (show q + 2 < 2 from hq) (by omega)) (fun J hJ => by rw [qb13 _ (by omega), qb11 _ (by omega)]; simp only [am_up]; simp; rw [if_neg (by omega)]; rw [qw4 42 (by decide)]) (fun J J18 J19 J20 => by rw [qc13.1 J J18, qc11.1 J J18]; simp [am_up, J19]; exact qw3 J J18 J20) (fun J J34 J42 => by rw [qc13.2 J J34 J42, qc11.2 J J34 J42]; funext b; simp [am_up, J34, J42]; rw [qw4 J J34])
    · refine az_swc 184 rfl (by first | assumption | exact ⟨by omega, by omega⟩) (by omega) (off := 145) (by rw [h2]; rfl) (by decide) ?_
      have hW : (zWd (zwi T ix).toNat).length = 5 := by rw [h2]; decide
      have hRs : zRs (zwi T ix).toNat = zRs 3 := by rw [h2]; rfl
      have hatw : tw 34 18 = ((ix + 5 : Nat) : Int) := by rw [hqw.2, hW]
      have hxle : ix + 5 ≤ n := by have := zal_n hTw hi (let ⟨tx, _, _, hp, e⟩ := zWd_ok _ hwy.1; ⟨tx.toList, rfl, hp, e⟩) hwy.2; omega
      refine az_to 5 (pc2 := 189) (lv2 := [some (az_r 34), some (az_i ((5 * ((c : Nat) : Int)))), some (az_i (zwi T ix))]) (st2 := [az_i (((5 * ((c : Nat) : Int)) + 1)), az_i (1), az_r 34]) (s2 := am_up (am_up tw 42 (5 * c) (zwi T ix)) 34 19 ((((c : Nat) : Int) + 1))) rfl ?_
      refine az_cl (m2 := am_m_X10_isNumber) (as := [az_r 34, az_i (1), az_i (((5 * ((c : Nat) : Int)) + 1))]) (rest := []) 192 rfl rfl ⟨rfl, rfl⟩ (by omega) (zs_X10_isNumber_1 (s := am_up (am_up tw 42 (5 * c) (zwi T ix)) 34 19 ((((c : Nat) : Int) + 1))) (pl := ((5 * c) + 1)) (ix := (ix + 5)) (by omega) hTw (by omega) hatw (by omega)) (fun v15 t15 q15 => ?_) (fun E t15 q15 => by cases q15.1)
      obtain ⟨o15, qa15, qv15, qb15, qc15⟩ := q15
      cases o15
      have hT15 := zTy_t (s := am_up (am_up tw 42 (5 * c) (zwi T ix)) 34 19 ((((c : Nat) : Int) + 1))) hTw qc15
      refine az_to 0 (pc2 := 192) (lv2 := [some (az_r 34), some (az_i ((5 * ((c : Nat) : Int)))), some (az_i (zwi T ix))]) (st2 := [az_i (az_b (zdg (T (ix + 5))))]) (s2 := t15) rfl ?_
      refine az_ifbe 210 195 rfl (by decide) (fun h16 => ?_) (fun h16 => ?_)
      · have h16 : ¬ (zdg (T (ix + 5))) := h16
        refine az_to 1 (pc2 := 211) (lv2 := [some (az_r 34), some (az_i ((5 * ((c : Nat) : Int)))), some (az_i (zwi T ix))]) (st2 := [az_i (0)]) (s2 := t15) rfl ?_
        refine az_retB rfl rfl (by first | decide | omega | exact Or.inl rfl | exact Or.inr rfl) ?_
        have hm : zms T (zRs (zwi T ix).toNat) (ix + (zWd (zwi T ix).toNat).length) = ((ix + 5), false, []) := by
          rw [hRs, zRs_s.2.2.2.1, hW, zms_d1, if_neg h16]
        exact zRB_n h0 hm (by rw [qa15, znw_n h16]) (fun J hJ => by rw [qb15 _ (by omega)]; simp only [am_up]; simp; rw [if_neg (by omega)]; rw [qw4 42 (by decide)]) (fun J J18 J19 J20 => by rw [qc15.1 J J18]; simp [am_up, J19]; exact qw3 J J18 J20) (fun J J34 J42 => by rw [qc15.2 J J34 J42]; funext b; simp [am_up, J34, J42]; rw [qw4 J J34])
      · have h16 : zdg (T (ix + 5)) := h16
        have hat15 : t15 34 18 = ((((ix + 5) + 1) : Nat) : Int) := by rw [qa15, znw_1 h16]
        have hn15 : (ix + 5) < n := zTn hTw (by omega)
        refine az_to 5 (pc2 := 200) (lv2 := [some (az_r 34), some (az_i ((5 * ((c : Nat) : Int)))), some (az_i (zwi T ix))]) (st2 := [az_i (((5 * ((c : Nat) : Int)) + 2)), az_i (1), az_r 34]) (s2 := t15) rfl ?_
        refine az_cl (m2 := am_m_X10_isNext) (as := [az_r 34, az_i (1), az_i (((5 * ((c : Nat) : Int)) + 2))]) (rest := []) 203 rfl rfl ⟨rfl, rfl⟩ (by omega) (zs_X10_isNext_1 (s := t15) (pl := ((5 * c) + 2)) (ix := ((ix + 5) + 1)) (by omega) hT15 (by omega) hat15 (by omega)) (fun v17 t17 q17 => ?_) (fun E t17 q17 => by cases q17.1)
        obtain ⟨o17, qa17, qv17, qb17, qc17⟩ := q17
        cases o17
        have hT17 := zTy_t (s := t15) hT15 qc17
        refine az_to 0 (pc2 := 203) (lv2 := [some (az_r 34), some (az_i ((5 * ((c : Nat) : Int)))), some (az_i (zwi T ix))]) (st2 := [az_i (az_b (T ((ix + 5) + 1) = 32 ∧ zdg (T (((ix + 5) + 1) + 1))))]) (s2 := t17) rfl ?_
        refine az_ifbe 210 206 rfl (by decide) (fun h18 => ?_) (fun h18 => ?_)
        · have h18 : ¬ (T ((ix + 5) + 1) = 32 ∧ zdg (T (((ix + 5) + 1) + 1))) := h18
          refine az_to 1 (pc2 := 211) (lv2 := [some (az_r 34), some (az_i ((5 * ((c : Nat) : Int)))), some (az_i (zwi T ix))]) (st2 := [az_i (0)]) (s2 := t17) rfl ?_
          refine az_retB rfl rfl (by first | decide | omega | exact Or.inl rfl | exact Or.inr rfl) ?_
          by_cases hsp : T ((ix + 5) + 1) = 32
          · have hm : zms T (zRs (zwi T ix).toNat) (ix + (zWd (zwi T ix).toNat).length) = (((ix + 5) + 1) + 1, false, [zvl T (ix + 5) 1]) := by
              rw [hRs, zRs_s.2.2.2.1, hW, zms_d1, if_pos h16, zms_sp, if_pos hsp, zms_d1, if_neg (fun w => h18 ⟨hsp, w⟩)]
            exact zRB_n h0 hm (by rw [qa17, if_pos hsp, znw_n (fun w => h18 ⟨hsp, w⟩)]) (fun J hJ => by rw [qb17 _ (by omega), qb15 _ (by omega)]; simp only [am_up]; simp; rw [if_neg (by omega)]; rw [qw4 42 (by decide)]) (fun J J18 J19 J20 => by rw [qc17.1 J J18, qc15.1 J J18]; simp [am_up, J19]; exact qw3 J J18 J20) (fun J J34 J42 => by rw [qc17.2 J J34 J42, qc15.2 J J34 J42]; funext b; simp [am_up, J34, J42]; rw [qw4 J J34])
          · have hm : zms T (zRs (zwi T ix).toNat) (ix + (zWd (zwi T ix).toNat).length) = (((ix + 5) + 1), false, [zvl T (ix + 5) 1]) := by
              rw [hRs, zRs_s.2.2.2.1, hW, zms_d1, if_pos h16, zms_sp, if_neg hsp]
            exact zRB_n h0 hm (by rw [qa17, if_neg hsp]) (fun J hJ => by rw [qb17 _ (by omega), qb15 _ (by omega)]; simp only [am_up]; simp; rw [if_neg (by omega)]; rw [qw4 42 (by decide)]) (fun J J18 J19 J20 => by rw [qc17.1 J J18, qc15.1 J J18]; simp [am_up, J19]; exact qw3 J J18 J20) (fun J J34 J42 => by rw [qc17.2 J J34 J42, qc15.2 J J34 J42]; funext b; simp [am_up, J34, J42]; rw [qw4 J J34])
        · have h18 : T ((ix + 5) + 1) = 32 ∧ zdg (T (((ix + 5) + 1) + 1)) := h18
          have hat17 : t17 34 18 = ((((((ix + 5) + 1) + 1) + 1) : Nat) : Int) := by rw [qa17, if_pos h18.1, znw_1 h18.2]
          have hn17 : ((ix + 5) + 1) + 1 < n := zTn hTw (by omega)
          refine az_to 2 (pc2 := 211) (lv2 := [some (az_r 34), some (az_i ((5 * ((c : Nat) : Int)))), some (az_i (zwi T ix))]) (st2 := [az_i (1)]) (s2 := t17) rfl ?_
          refine az_retB rfl rfl (by first | decide | omega | exact Or.inl rfl | exact Or.inr rfl) ?_
          have hm : zms T (zRs (zwi T ix).toNat) (ix + (zWd (zwi T ix).toNat).length) = (((ix + 5) + 1) + 1 + 1, true, [zvl T (ix + 5) 1, zvl T (((ix + 5) + 1) + 1) 1]) := by
            rw [hRs, zRs_s.2.2.2.1, hW, zms_d1, if_pos h16, zms_sp, if_pos h18.1, zms_d1, if_pos h18.2, zms_0]
          exact zRB_y h0 hm (by rw [qa17, if_pos h18.1, znw_1 h18.2]) (by rw [qc17.1 19 (by decide), qc15.1 19 (by decide)]; rfl) (by rw [qb17 _ (by omega), qb15 _ (by omega)]; simp [am_up]) (fun q hq => match q, hq with
            | 0, _ => by
              show t17 42 (5 * c + 1) = zvl T (ix + 5) 1
              rw [qb17 _ (by omega), qv15 h16, znw_1 h16]
            | 1, _ => by
              show t17 42 (5 * c + 2) = zvl T (((ix + 5) + 1) + 1) 1
              rw [qv17 h18, znw_1 h18.2]
            | q + 2, hq => absurd (show q + 2 < 2 from hq) (by omega)) (fun J hJ => by rw [qb17 _ (by omega), qb15 _ (by omega)]; simp only [am_up]; simp; rw [if_neg (by omega)]; rw [qw4 42 (by decide)]) (fun J J18 J19 J20 => by rw [qc17.1 J J18, qc15.1 J J18]; simp [am_up, J19]; exact qw3 J J18 J20) (fun J J34 J42 => by rw [qc17.2 J J34 J42, qc15.2 J J34 J42]; funext b; simp [am_up, J34, J42]; rw [qw4 J J34])
    · refine az_swc 184 rfl (by first | assumption | exact ⟨by omega, by omega⟩) (by omega) (off := 145) (by rw [h2]; rfl) (by decide) ?_
      have hW : (zWd (zwi T ix).toNat).length = 6 := by rw [h2]; decide
      have hRs : zRs (zwi T ix).toNat = zRs 4 := by rw [h2]; rfl
      have hatw : tw 34 18 = ((ix + 6 : Nat) : Int) := by rw [hqw.2, hW]
      have hxle : ix + 6 ≤ n := by have := zal_n hTw hi (let ⟨tx, _, _, hp, e⟩ := zWd_ok _ hwy.1; ⟨tx.toList, rfl, hp, e⟩) hwy.2; omega
      refine az_to 5 (pc2 := 189) (lv2 := [some (az_r 34), some (az_i ((5 * ((c : Nat) : Int)))), some (az_i (zwi T ix))]) (st2 := [az_i (((5 * ((c : Nat) : Int)) + 1)), az_i (1), az_r 34]) (s2 := am_up (am_up tw 42 (5 * c) (zwi T ix)) 34 19 ((((c : Nat) : Int) + 1))) rfl ?_
      refine az_cl (m2 := am_m_X10_isNumber) (as := [az_r 34, az_i (1), az_i (((5 * ((c : Nat) : Int)) + 1))]) (rest := []) 192 rfl rfl ⟨rfl, rfl⟩ (by omega) (zs_X10_isNumber_1 (s := am_up (am_up tw 42 (5 * c) (zwi T ix)) 34 19 ((((c : Nat) : Int) + 1))) (pl := ((5 * c) + 1)) (ix := (ix + 6)) (by omega) hTw (by omega) hatw (by omega)) (fun v19 t19 q19 => ?_) (fun E t19 q19 => by cases q19.1)
      obtain ⟨o19, qa19, qv19, qb19, qc19⟩ := q19
      cases o19
      have hT19 := zTy_t (s := am_up (am_up tw 42 (5 * c) (zwi T ix)) 34 19 ((((c : Nat) : Int) + 1))) hTw qc19
      refine az_to 0 (pc2 := 192) (lv2 := [some (az_r 34), some (az_i ((5 * ((c : Nat) : Int)))), some (az_i (zwi T ix))]) (st2 := [az_i (az_b (zdg (T (ix + 6))))]) (s2 := t19) rfl ?_
      refine az_ifbe 210 195 rfl (by decide) (fun h20 => ?_) (fun h20 => ?_)
      · have h20 : ¬ (zdg (T (ix + 6))) := h20
        refine az_to 1 (pc2 := 211) (lv2 := [some (az_r 34), some (az_i ((5 * ((c : Nat) : Int)))), some (az_i (zwi T ix))]) (st2 := [az_i (0)]) (s2 := t19) rfl ?_
        refine az_retB rfl rfl (by first | decide | omega | exact Or.inl rfl | exact Or.inr rfl) ?_
        have hm : zms T (zRs (zwi T ix).toNat) (ix + (zWd (zwi T ix).toNat).length) = ((ix + 6), false, []) := by
          rw [hRs, zRs_s.2.2.2.2.1, hW, zms_d1, if_neg h20]
        exact zRB_n h0 hm (by rw [qa19, znw_n h20]) (fun J hJ => by rw [qb19 _ (by omega)]; simp only [am_up]; simp; rw [if_neg (by omega)]; rw [qw4 42 (by decide)]) (fun J J18 J19 J20 => by rw [qc19.1 J J18]; simp [am_up, J19]; exact qw3 J J18 J20) (fun J J34 J42 => by rw [qc19.2 J J34 J42]; funext b; simp [am_up, J34, J42]; rw [qw4 J J34])
      · have h20 : zdg (T (ix + 6)) := h20
        have hat19 : t19 34 18 = ((((ix + 6) + 1) : Nat) : Int) := by rw [qa19, znw_1 h20]
        have hn19 : (ix + 6) < n := zTn hTw (by omega)
        refine az_to 5 (pc2 := 200) (lv2 := [some (az_r 34), some (az_i ((5 * ((c : Nat) : Int)))), some (az_i (zwi T ix))]) (st2 := [az_i (((5 * ((c : Nat) : Int)) + 2)), az_i (1), az_r 34]) (s2 := t19) rfl ?_
        refine az_cl (m2 := am_m_X10_isNext) (as := [az_r 34, az_i (1), az_i (((5 * ((c : Nat) : Int)) + 2))]) (rest := []) 203 rfl rfl ⟨rfl, rfl⟩ (by omega) (zs_X10_isNext_1 (s := t19) (pl := ((5 * c) + 2)) (ix := ((ix + 6) + 1)) (by omega) hT19 (by omega) hat19 (by omega)) (fun v21 t21 q21 => ?_) (fun E t21 q21 => by cases q21.1)
        obtain ⟨o21, qa21, qv21, qb21, qc21⟩ := q21
        cases o21
        have hT21 := zTy_t (s := t19) hT19 qc21
        refine az_to 0 (pc2 := 203) (lv2 := [some (az_r 34), some (az_i ((5 * ((c : Nat) : Int)))), some (az_i (zwi T ix))]) (st2 := [az_i (az_b (T ((ix + 6) + 1) = 32 ∧ zdg (T (((ix + 6) + 1) + 1))))]) (s2 := t21) rfl ?_
        refine az_ifbe 210 206 rfl (by decide) (fun h22 => ?_) (fun h22 => ?_)
        · have h22 : ¬ (T ((ix + 6) + 1) = 32 ∧ zdg (T (((ix + 6) + 1) + 1))) := h22
          refine az_to 1 (pc2 := 211) (lv2 := [some (az_r 34), some (az_i ((5 * ((c : Nat) : Int)))), some (az_i (zwi T ix))]) (st2 := [az_i (0)]) (s2 := t21) rfl ?_
          refine az_retB rfl rfl (by first | decide | omega | exact Or.inl rfl | exact Or.inr rfl) ?_
          by_cases hsp : T ((ix + 6) + 1) = 32
          · have hm : zms T (zRs (zwi T ix).toNat) (ix + (zWd (zwi T ix).toNat).length) = (((ix + 6) + 1) + 1, false, [zvl T (ix + 6) 1]) := by
              rw [hRs, zRs_s.2.2.2.2.1, hW, zms_d1, if_pos h20, zms_sp, if_pos hsp, zms_d1, if_neg (fun w => h22 ⟨hsp, w⟩)]
            exact zRB_n h0 hm (by rw [qa21, if_pos hsp, znw_n (fun w => h22 ⟨hsp, w⟩)]) (fun J hJ => by rw [qb21 _ (by omega), qb19 _ (by omega)]; simp only [am_up]; simp; rw [if_neg (by omega)]; rw [qw4 42 (by decide)]) (fun J J18 J19 J20 => by rw [qc21.1 J J18, qc19.1 J J18]; simp [am_up, J19]; exact qw3 J J18 J20) (fun J J34 J42 => by rw [qc21.2 J J34 J42, qc19.2 J J34 J42]; funext b; simp [am_up, J34, J42]; rw [qw4 J J34])
          · have hm : zms T (zRs (zwi T ix).toNat) (ix + (zWd (zwi T ix).toNat).length) = (((ix + 6) + 1), false, [zvl T (ix + 6) 1]) := by
              rw [hRs, zRs_s.2.2.2.2.1, hW, zms_d1, if_pos h20, zms_sp, if_neg hsp]
            exact zRB_n h0 hm (by rw [qa21, if_neg hsp]) (fun J hJ => by rw [qb21 _ (by omega), qb19 _ (by omega)]; simp only [am_up]; simp; rw [if_neg (by omega)]; rw [qw4 42 (by decide)]) (fun J J18 J19 J20 => by rw [qc21.1 J J18, qc19.1 J J18]; simp [am_up, J19]; exact qw3 J J18 J20) (fun J J34 J42 => by rw [qc21.2 J J34 J42, qc19.2 J J34 J42]; funext b; simp [am_up, J34, J42]; rw [qw4 J J34])
        · have h22 : T ((ix + 6) + 1) = 32 ∧ zdg (T (((ix + 6) + 1) + 1)) := h22
          have hat21 : t21 34 18 = ((((((ix + 6) + 1) + 1) + 1) : Nat) : Int) := by rw [qa21, if_pos h22.1, znw_1 h22.2]
          have hn21 : ((ix + 6) + 1) + 1 < n := zTn hTw (by omega)
          refine az_to 2 (pc2 := 211) (lv2 := [some (az_r 34), some (az_i ((5 * ((c : Nat) : Int)))), some (az_i (zwi T ix))]) (st2 := [az_i (1)]) (s2 := t21) rfl ?_
          refine az_retB rfl rfl (by first | decide | omega | exact Or.inl rfl | exact Or.inr rfl) ?_
          have hm : zms T (zRs (zwi T ix).toNat) (ix + (zWd (zwi T ix).toNat).length) = (((ix + 6) + 1) + 1 + 1, true, [zvl T (ix + 6) 1, zvl T (((ix + 6) + 1) + 1) 1]) := by
            rw [hRs, zRs_s.2.2.2.2.1, hW, zms_d1, if_pos h20, zms_sp, if_pos h22.1, zms_d1, if_pos h22.2, zms_0]
          exact zRB_y h0 hm (by rw [qa21, if_pos h22.1, znw_1 h22.2]) (by rw [qc21.1 19 (by decide), qc19.1 19 (by decide)]; rfl) (by rw [qb21 _ (by omega), qb19 _ (by omega)]; simp [am_up]) (fun q hq => match q, hq with
            | 0, _ => by
              show t21 42 (5 * c + 1) = zvl T (ix + 6) 1
              rw [qb21 _ (by omega), qv19 h20, znw_1 h20]
            | 1, _ => by
              show t21 42 (5 * c + 2) = zvl T (((ix + 6) + 1) + 1) 1
              rw [qv21 h22, znw_1 h22.2]
            | q + 2, hq => absurd (show q + 2 < 2 from hq) (by omega)) (fun J hJ => by rw [qb21 _ (by omega), qb19 _ (by omega)]; simp only [am_up]; simp; rw [if_neg (by omega)]; rw [qw4 42 (by decide)]) (fun J J18 J19 J20 => by rw [qc21.1 J J18, qc19.1 J J18]; simp [am_up, J19]; exact qw3 J J18 J20) (fun J J34 J42 => by rw [qc21.2 J J34 J42, qc19.2 J J34 J42]; funext b; simp [am_up, J34, J42]; rw [qw4 J J34])
    · refine az_swc 184 rfl (by first | assumption | exact ⟨by omega, by omega⟩) (by omega) (off := 145) (by rw [h2]; rfl) (by decide) ?_
      have hW : (zWd (zwi T ix).toNat).length = 8 := by rw [h2]; decide
      have hRs : zRs (zwi T ix).toNat = zRs 5 := by rw [h2]; rfl
      have hatw : tw 34 18 = ((ix + 8 : Nat) : Int) := by rw [hqw.2, hW]
      have hxle : ix + 8 ≤ n := by have := zal_n hTw hi (let ⟨tx, _, _, hp, e⟩ := zWd_ok _ hwy.1; ⟨tx.toList, rfl, hp, e⟩) hwy.2; omega
      refine az_to 5 (pc2 := 189) (lv2 := [some (az_r 34), some (az_i ((5 * ((c : Nat) : Int)))), some (az_i (zwi T ix))]) (st2 := [az_i (((5 * ((c : Nat) : Int)) + 1)), az_i (1), az_r 34]) (s2 := am_up (am_up tw 42 (5 * c) (zwi T ix)) 34 19 ((((c : Nat) : Int) + 1))) rfl ?_
      refine az_cl (m2 := am_m_X10_isNumber) (as := [az_r 34, az_i (1), az_i (((5 * ((c : Nat) : Int)) + 1))]) (rest := []) 192 rfl rfl ⟨rfl, rfl⟩ (by omega) (zs_X10_isNumber_1 (s := am_up (am_up tw 42 (5 * c) (zwi T ix)) 34 19 ((((c : Nat) : Int) + 1))) (pl := ((5 * c) + 1)) (ix := (ix + 8)) (by omega) hTw (by omega) hatw (by omega)) (fun v23 t23 q23 => ?_) (fun E t23 q23 => by cases q23.1)
      obtain ⟨o23, qa23, qv23, qb23, qc23⟩ := q23
      cases o23
      have hT23 := zTy_t (s := am_up (am_up tw 42 (5 * c) (zwi T ix)) 34 19 ((((c : Nat) : Int) + 1))) hTw qc23
      refine az_to 0 (pc2 := 192) (lv2 := [some (az_r 34), some (az_i ((5 * ((c : Nat) : Int)))), some (az_i (zwi T ix))]) (st2 := [az_i (az_b (zdg (T (ix + 8))))]) (s2 := t23) rfl ?_
      refine az_ifbe 210 195 rfl (by decide) (fun h24 => ?_) (fun h24 => ?_)
      · have h24 : ¬ (zdg (T (ix + 8))) := h24
        refine az_to 1 (pc2 := 211) (lv2 := [some (az_r 34), some (az_i ((5 * ((c : Nat) : Int)))), some (az_i (zwi T ix))]) (st2 := [az_i (0)]) (s2 := t23) rfl ?_
        refine az_retB rfl rfl (by first | decide | omega | exact Or.inl rfl | exact Or.inr rfl) ?_
        have hm : zms T (zRs (zwi T ix).toNat) (ix + (zWd (zwi T ix).toNat).length) = ((ix + 8), false, []) := by
          rw [hRs, zRs_s.2.2.2.2.2.1, hW, zms_d1, if_neg h24]
        exact zRB_n h0 hm (by rw [qa23, znw_n h24]) (fun J hJ => by rw [qb23 _ (by omega)]; simp only [am_up]; simp; rw [if_neg (by omega)]; rw [qw4 42 (by decide)]) (fun J J18 J19 J20 => by rw [qc23.1 J J18]; simp [am_up, J19]; exact qw3 J J18 J20) (fun J J34 J42 => by rw [qc23.2 J J34 J42]; funext b; simp [am_up, J34, J42]; rw [qw4 J J34])
      · have h24 : zdg (T (ix + 8)) := h24
        have hat23 : t23 34 18 = ((((ix + 8) + 1) : Nat) : Int) := by rw [qa23, znw_1 h24]
        have hn23 : (ix + 8) < n := zTn hTw (by omega)
        refine az_to 5 (pc2 := 200) (lv2 := [some (az_r 34), some (az_i ((5 * ((c : Nat) : Int)))), some (az_i (zwi T ix))]) (st2 := [az_i (((5 * ((c : Nat) : Int)) + 2)), az_i (1), az_r 34]) (s2 := t23) rfl ?_
        refine az_cl (m2 := am_m_X10_isNext) (as := [az_r 34, az_i (1), az_i (((5 * ((c : Nat) : Int)) + 2))]) (rest := []) 203 rfl rfl ⟨rfl, rfl⟩ (by omega) (zs_X10_isNext_1 (s := t23) (pl := ((5 * c) + 2)) (ix := ((ix + 8) + 1)) (by omega) hT23 (by omega) hat23 (by omega)) (fun v25 t25 q25 => ?_) (fun E t25 q25 => by cases q25.1)
        obtain ⟨o25, qa25, qv25, qb25, qc25⟩ := q25
        cases o25
        have hT25 := zTy_t (s := t23) hT23 qc25
        refine az_to 0 (pc2 := 203) (lv2 := [some (az_r 34), some (az_i ((5 * ((c : Nat) : Int)))), some (az_i (zwi T ix))]) (st2 := [az_i (az_b (T ((ix + 8) + 1) = 32 ∧ zdg (T (((ix + 8) + 1) + 1))))]) (s2 := t25) rfl ?_
        refine az_ifbe 210 206 rfl (by decide) (fun h26 => ?_) (fun h26 => ?_)
        · have h26 : ¬ (T ((ix + 8) + 1) = 32 ∧ zdg (T (((ix + 8) + 1) + 1))) := h26
          refine az_to 1 (pc2 := 211) (lv2 := [some (az_r 34), some (az_i ((5 * ((c : Nat) : Int)))), some (az_i (zwi T ix))]) (st2 := [az_i (0)]) (s2 := t25) rfl ?_
          refine az_retB rfl rfl (by first | decide | omega | exact Or.inl rfl | exact Or.inr rfl) ?_
          by_cases hsp : T ((ix + 8) + 1) = 32
          · have hm : zms T (zRs (zwi T ix).toNat) (ix + (zWd (zwi T ix).toNat).length) = (((ix + 8) + 1) + 1, false, [zvl T (ix + 8) 1]) := by
              rw [hRs, zRs_s.2.2.2.2.2.1, hW, zms_d1, if_pos h24, zms_sp, if_pos hsp, zms_d1, if_neg (fun w => h26 ⟨hsp, w⟩)]
            exact zRB_n h0 hm (by rw [qa25, if_pos hsp, znw_n (fun w => h26 ⟨hsp, w⟩)]) (fun J hJ => by rw [qb25 _ (by omega), qb23 _ (by omega)]; simp only [am_up]; simp; rw [if_neg (by omega)]; rw [qw4 42 (by decide)]) (fun J J18 J19 J20 => by rw [qc25.1 J J18, qc23.1 J J18]; simp [am_up, J19]; exact qw3 J J18 J20) (fun J J34 J42 => by rw [qc25.2 J J34 J42, qc23.2 J J34 J42]; funext b; simp [am_up, J34, J42]; rw [qw4 J J34])
          · have hm : zms T (zRs (zwi T ix).toNat) (ix + (zWd (zwi T ix).toNat).length) = (((ix + 8) + 1), false, [zvl T (ix + 8) 1]) := by
              rw [hRs, zRs_s.2.2.2.2.2.1, hW, zms_d1, if_pos h24, zms_sp, if_neg hsp]
            exact zRB_n h0 hm (by rw [qa25, if_neg hsp]) (fun J hJ => by rw [qb25 _ (by omega), qb23 _ (by omega)]; simp only [am_up]; simp; rw [if_neg (by omega)]; rw [qw4 42 (by decide)]) (fun J J18 J19 J20 => by rw [qc25.1 J J18, qc23.1 J J18]; simp [am_up, J19]; exact qw3 J J18 J20) (fun J J34 J42 => by rw [qc25.2 J J34 J42, qc23.2 J J34 J42]; funext b; simp [am_up, J34, J42]; rw [qw4 J J34])
        · have h26 : T ((ix + 8) + 1) = 32 ∧ zdg (T (((ix + 8) + 1) + 1)) := h26
          have hat25 : t25 34 18 = ((((((ix + 8) + 1) + 1) + 1) : Nat) : Int) := by rw [qa25, if_pos h26.1, znw_1 h26.2]
          have hn25 : ((ix + 8) + 1) + 1 < n := zTn hTw (by omega)
          refine az_to 2 (pc2 := 211) (lv2 := [some (az_r 34), some (az_i ((5 * ((c : Nat) : Int)))), some (az_i (zwi T ix))]) (st2 := [az_i (1)]) (s2 := t25) rfl ?_
          refine az_retB rfl rfl (by first | decide | omega | exact Or.inl rfl | exact Or.inr rfl) ?_
          have hm : zms T (zRs (zwi T ix).toNat) (ix + (zWd (zwi T ix).toNat).length) = (((ix + 8) + 1) + 1 + 1, true, [zvl T (ix + 8) 1, zvl T (((ix + 8) + 1) + 1) 1]) := by
            rw [hRs, zRs_s.2.2.2.2.2.1, hW, zms_d1, if_pos h24, zms_sp, if_pos h26.1, zms_d1, if_pos h26.2, zms_0]
          exact zRB_y h0 hm (by rw [qa25, if_pos h26.1, znw_1 h26.2]) (by rw [qc25.1 19 (by decide), qc23.1 19 (by decide)]; rfl) (by rw [qb25 _ (by omega), qb23 _ (by omega)]; simp [am_up]) (fun q hq => match q, hq with
            | 0, _ => by
              show t25 42 (5 * c + 1) = zvl T (ix + 8) 1
              rw [qb25 _ (by omega), qv23 h24, znw_1 h24]
            | 1, _ => by
              show t25 42 (5 * c + 2) = zvl T (((ix + 8) + 1) + 1) 1
              rw [qv25 h26, znw_1 h26.2]
            | q + 2, hq => absurd (show q + 2 < 2 from hq) (by omega)) (fun J hJ => by rw [qb25 _ (by omega), qb23 _ (by omega)]; simp only [am_up]; simp; rw [if_neg (by omega)]; rw [qw4 42 (by decide)]) (fun J J18 J19 J20 => by rw [qc25.1 J J18, qc23.1 J J18]; simp [am_up, J19]; exact qw3 J J18 J20) (fun J J34 J42 => by rw [qc25.2 J J34 J42, qc23.2 J J34 J42]; funext b; simp [am_up, J34, J42]; rw [qw4 J J34])
    · refine az_swc 287 rfl (by first | assumption | exact ⟨by omega, by omega⟩) (by omega) (off := 248) (by rw [h2]; rfl) (by decide) ?_
      have hW : (zWd (zwi T ix).toNat).length = 6 := by rw [h2]; decide
      have hRs : zRs (zwi T ix).toNat = zRs 6 := by rw [h2]; rfl
      have hatw : tw 34 18 = ((ix + 6 : Nat) : Int) := by rw [hqw.2, hW]
      have hxle : ix + 6 ≤ n := by have := zal_n hTw hi (let ⟨tx, _, _, hp, e⟩ := zWd_ok _ hwy.1; ⟨tx.toList, rfl, hp, e⟩) hwy.2; omega
      refine az_to 5 (pc2 := 292) (lv2 := [some (az_r 34), some (az_i ((5 * ((c : Nat) : Int)))), some (az_i (zwi T ix))]) (st2 := [az_i (((5 * ((c : Nat) : Int)) + 1)), az_i (1), az_r 34]) (s2 := am_up (am_up tw 42 (5 * c) (zwi T ix)) 34 19 ((((c : Nat) : Int) + 1))) rfl ?_
      refine az_cl (m2 := am_m_X10_isNumber) (as := [az_r 34, az_i (1), az_i (((5 * ((c : Nat) : Int)) + 1))]) (rest := []) 295 rfl rfl ⟨rfl, rfl⟩ (by omega) (zs_X10_isNumber_1 (s := am_up (am_up tw 42 (5 * c) (zwi T ix)) 34 19 ((((c : Nat) : Int) + 1))) (pl := ((5 * c) + 1)) (ix := (ix + 6)) (by omega) hTw (by omega) hatw (by omega)) (fun v27 t27 q27 => ?_) (fun E t27 q27 => by cases q27.1)
      obtain ⟨o27, qa27, qv27, qb27, qc27⟩ := q27
      cases o27
      have hT27 := zTy_t (s := am_up (am_up tw 42 (5 * c) (zwi T ix)) 34 19 ((((c : Nat) : Int) + 1))) hTw qc27
      refine az_to 0 (pc2 := 295) (lv2 := [some (az_r 34), some (az_i ((5 * ((c : Nat) : Int)))), some (az_i (zwi T ix))]) (st2 := [az_i (az_b (zdg (T (ix + 6))))]) (s2 := t27) rfl ?_
      refine az_retP rfl rfl ?_
      by_cases hB : zdg (T (ix + 6))
      · rw [az_b1 hB]
        have hm : zms T (zRs (zwi T ix).toNat) (ix + (zWd (zwi T ix).toNat).length) = ((ix + 6) + 1, true, [zvl T (ix + 6) 1]) := by
          rw [hRs, zRs_s.2.2.2.2.2.2.1, hW, zms_d1, if_pos hB, zms_0]
        exact zRB_y h0 hm (by rw [qa27, znw_1 hB]) (by rw [qc27.1 19 (by decide)]; rfl) (by rw [qb27 _ (by omega)]; simp [am_up]) (fun q hq => match q, hq with
          | 0, _ => by
            show t27 42 (5 * c + 1) = zvl T (ix + 6) 1
            rw [qv27 hB, znw_1 hB]
          | q + 1, hq => absurd (show q + 1 < 1 from hq) (by omega)) (fun J hJ => by rw [qb27 _ (by omega)]; simp only [am_up]; simp; rw [if_neg (by omega)]; rw [qw4 42 (by decide)]) (fun J J18 J19 J20 => by rw [qc27.1 J J18]; simp [am_up, J19]; exact qw3 J J18 J20) (fun J J34 J42 => by rw [qc27.2 J J34 J42]; funext b; simp [am_up, J34, J42]; rw [qw4 J J34])
      · rw [az_b0 hB]
        have hm : zms T (zRs (zwi T ix).toNat) (ix + (zWd (zwi T ix).toNat).length) = ((ix + 6), false, []) := by
          rw [hRs, zRs_s.2.2.2.2.2.2.1, hW, zms_d1, if_neg hB]
        exact zRB_n h0 hm (by rw [qa27, znw_n hB]) (fun J hJ => by rw [qb27 _ (by omega)]; simp only [am_up]; simp; rw [if_neg (by omega)]; rw [qw4 42 (by decide)]) (fun J J18 J19 J20 => by rw [qc27.1 J J18]; simp [am_up, J19]; exact qw3 J J18 J20) (fun J J34 J42 => by rw [qc27.2 J J34 J42]; funext b; simp [am_up, J34, J42]; rw [qw4 J J34])
    · refine az_swc 287 rfl (by first | assumption | exact ⟨by omega, by omega⟩) (by omega) (off := 248) (by rw [h2]; rfl) (by decide) ?_
      have hW : (zWd (zwi T ix).toNat).length = 7 := by rw [h2]; decide
      have hRs : zRs (zwi T ix).toNat = zRs 7 := by rw [h2]; rfl
      have hatw : tw 34 18 = ((ix + 7 : Nat) : Int) := by rw [hqw.2, hW]
      have hxle : ix + 7 ≤ n := by have := zal_n hTw hi (let ⟨tx, _, _, hp, e⟩ := zWd_ok _ hwy.1; ⟨tx.toList, rfl, hp, e⟩) hwy.2; omega
      refine az_to 5 (pc2 := 292) (lv2 := [some (az_r 34), some (az_i ((5 * ((c : Nat) : Int)))), some (az_i (zwi T ix))]) (st2 := [az_i (((5 * ((c : Nat) : Int)) + 1)), az_i (1), az_r 34]) (s2 := am_up (am_up tw 42 (5 * c) (zwi T ix)) 34 19 ((((c : Nat) : Int) + 1))) rfl ?_
      refine az_cl (m2 := am_m_X10_isNumber) (as := [az_r 34, az_i (1), az_i (((5 * ((c : Nat) : Int)) + 1))]) (rest := []) 295 rfl rfl ⟨rfl, rfl⟩ (by omega) (zs_X10_isNumber_1 (s := am_up (am_up tw 42 (5 * c) (zwi T ix)) 34 19 ((((c : Nat) : Int) + 1))) (pl := ((5 * c) + 1)) (ix := (ix + 7)) (by omega) hTw (by omega) hatw (by omega)) (fun v28 t28 q28 => ?_) (fun E t28 q28 => by cases q28.1)
      obtain ⟨o28, qa28, qv28, qb28, qc28⟩ := q28
      cases o28
      have hT28 := zTy_t (s := am_up (am_up tw 42 (5 * c) (zwi T ix)) 34 19 ((((c : Nat) : Int) + 1))) hTw qc28
      refine az_to 0 (pc2 := 295) (lv2 := [some (az_r 34), some (az_i ((5 * ((c : Nat) : Int)))), some (az_i (zwi T ix))]) (st2 := [az_i (az_b (zdg (T (ix + 7))))]) (s2 := t28) rfl ?_
      refine az_retP rfl rfl ?_
      by_cases hB : zdg (T (ix + 7))
      · rw [az_b1 hB]
        have hm : zms T (zRs (zwi T ix).toNat) (ix + (zWd (zwi T ix).toNat).length) = ((ix + 7) + 1, true, [zvl T (ix + 7) 1]) := by
          rw [hRs, zRs_s.2.2.2.2.2.2.2.1, hW, zms_d1, if_pos hB, zms_0]
        exact zRB_y h0 hm (by rw [qa28, znw_1 hB]) (by rw [qc28.1 19 (by decide)]; rfl) (by rw [qb28 _ (by omega)]; simp [am_up]) (fun q hq => match q, hq with
          | 0, _ => by
            show t28 42 (5 * c + 1) = zvl T (ix + 7) 1
            rw [qv28 hB, znw_1 hB]
          | q + 1, hq => absurd (show q + 1 < 1 from hq) (by omega)) (fun J hJ => by rw [qb28 _ (by omega)]; simp only [am_up]; simp; rw [if_neg (by omega)]; rw [qw4 42 (by decide)]) (fun J J18 J19 J20 => by rw [qc28.1 J J18]; simp [am_up, J19]; exact qw3 J J18 J20) (fun J J34 J42 => by rw [qc28.2 J J34 J42]; funext b; simp [am_up, J34, J42]; rw [qw4 J J34])
      · rw [az_b0 hB]
        have hm : zms T (zRs (zwi T ix).toNat) (ix + (zWd (zwi T ix).toNat).length) = ((ix + 7), false, []) := by
          rw [hRs, zRs_s.2.2.2.2.2.2.2.1, hW, zms_d1, if_neg hB]
        exact zRB_n h0 hm (by rw [qa28, znw_n hB]) (fun J hJ => by rw [qb28 _ (by omega)]; simp only [am_up]; simp; rw [if_neg (by omega)]; rw [qw4 42 (by decide)]) (fun J J18 J19 J20 => by rw [qc28.1 J J18]; simp [am_up, J19]; exact qw3 J J18 J20) (fun J J34 J42 => by rw [qc28.2 J J34 J42]; funext b; simp [am_up, J34, J42]; rw [qw4 J J34])
    · refine az_swc 287 rfl (by first | assumption | exact ⟨by omega, by omega⟩) (by omega) (off := 248) (by rw [h2]; rfl) (by decide) ?_
      have hW : (zWd (zwi T ix).toNat).length = 5 := by rw [h2]; decide
      have hRs : zRs (zwi T ix).toNat = zRs 8 := by rw [h2]; rfl
      have hatw : tw 34 18 = ((ix + 5 : Nat) : Int) := by rw [hqw.2, hW]
      have hxle : ix + 5 ≤ n := by have := zal_n hTw hi (let ⟨tx, _, _, hp, e⟩ := zWd_ok _ hwy.1; ⟨tx.toList, rfl, hp, e⟩) hwy.2; omega
      refine az_to 5 (pc2 := 292) (lv2 := [some (az_r 34), some (az_i ((5 * ((c : Nat) : Int)))), some (az_i (zwi T ix))]) (st2 := [az_i (((5 * ((c : Nat) : Int)) + 1)), az_i (1), az_r 34]) (s2 := am_up (am_up tw 42 (5 * c) (zwi T ix)) 34 19 ((((c : Nat) : Int) + 1))) rfl ?_
      refine az_cl (m2 := am_m_X10_isNumber) (as := [az_r 34, az_i (1), az_i (((5 * ((c : Nat) : Int)) + 1))]) (rest := []) 295 rfl rfl ⟨rfl, rfl⟩ (by omega) (zs_X10_isNumber_1 (s := am_up (am_up tw 42 (5 * c) (zwi T ix)) 34 19 ((((c : Nat) : Int) + 1))) (pl := ((5 * c) + 1)) (ix := (ix + 5)) (by omega) hTw (by omega) hatw (by omega)) (fun v29 t29 q29 => ?_) (fun E t29 q29 => by cases q29.1)
      obtain ⟨o29, qa29, qv29, qb29, qc29⟩ := q29
      cases o29
      have hT29 := zTy_t (s := am_up (am_up tw 42 (5 * c) (zwi T ix)) 34 19 ((((c : Nat) : Int) + 1))) hTw qc29
      refine az_to 0 (pc2 := 295) (lv2 := [some (az_r 34), some (az_i ((5 * ((c : Nat) : Int)))), some (az_i (zwi T ix))]) (st2 := [az_i (az_b (zdg (T (ix + 5))))]) (s2 := t29) rfl ?_
      refine az_retP rfl rfl ?_
      by_cases hB : zdg (T (ix + 5))
      · rw [az_b1 hB]
        have hm : zms T (zRs (zwi T ix).toNat) (ix + (zWd (zwi T ix).toNat).length) = ((ix + 5) + 1, true, [zvl T (ix + 5) 1]) := by
          rw [hRs, zRs_s.2.2.2.2.2.2.2.2.1, hW, zms_d1, if_pos hB, zms_0]
        exact zRB_y h0 hm (by rw [qa29, znw_1 hB]) (by rw [qc29.1 19 (by decide)]; rfl) (by rw [qb29 _ (by omega)]; simp [am_up]) (fun q hq => match q, hq with
          | 0, _ => by
            show t29 42 (5 * c + 1) = zvl T (ix + 5) 1
            rw [qv29 hB, znw_1 hB]
          | q + 1, hq => absurd (show q + 1 < 1 from hq) (by omega)) (fun J hJ => by rw [qb29 _ (by omega)]; simp only [am_up]; simp; rw [if_neg (by omega)]; rw [qw4 42 (by decide)]) (fun J J18 J19 J20 => by rw [qc29.1 J J18]; simp [am_up, J19]; exact qw3 J J18 J20) (fun J J34 J42 => by rw [qc29.2 J J34 J42]; funext b; simp [am_up, J34, J42]; rw [qw4 J J34])
      · rw [az_b0 hB]
        have hm : zms T (zRs (zwi T ix).toNat) (ix + (zWd (zwi T ix).toNat).length) = ((ix + 5), false, []) := by
          rw [hRs, zRs_s.2.2.2.2.2.2.2.2.1, hW, zms_d1, if_neg hB]
        exact zRB_n h0 hm (by rw [qa29, znw_n hB]) (fun J hJ => by rw [qb29 _ (by omega)]; simp only [am_up]; simp; rw [if_neg (by omega)]; rw [qw4 42 (by decide)]) (fun J J18 J19 J20 => by rw [qc29.1 J J18]; simp [am_up, J19]; exact qw3 J J18 J20) (fun J J34 J42 => by rw [qc29.2 J J34 J42]; funext b; simp [am_up, J34, J42]; rw [qw4 J J34])
    · refine az_swc 212 rfl (by first | assumption | exact ⟨by omega, by omega⟩) (by omega) (off := 173) (by rw [h2]; rfl) (by decide) ?_
      have hW : (zWd (zwi T ix).toNat).length = 7 := by rw [h2]; decide
      have hRs : zRs (zwi T ix).toNat = zRs 9 := by rw [h2]; rfl
      have hatw : tw 34 18 = ((ix + 7 : Nat) : Int) := by rw [hqw.2, hW]
      have hxle : ix + 7 ≤ n := by have := zal_n hTw hi (let ⟨tx, _, _, hp, e⟩ := zWd_ok _ hwy.1; ⟨tx.toList, rfl, hp, e⟩) hwy.2; omega
      refine az_to 5 (pc2 := 217) (lv2 := [some (az_r 34), some (az_i ((5 * ((c : Nat) : Int)))), some (az_i (zwi T ix))]) (st2 := [az_i (((5 * ((c : Nat) : Int)) + 1)), az_i (1), az_r 34]) (s2 := am_up (am_up tw 42 (5 * c) (zwi T ix)) 34 19 ((((c : Nat) : Int) + 1))) rfl ?_
      refine az_cl (m2 := am_m_X10_isNumber) (as := [az_r 34, az_i (1), az_i (((5 * ((c : Nat) : Int)) + 1))]) (rest := []) 220 rfl rfl ⟨rfl, rfl⟩ (by omega) (zs_X10_isNumber_1 (s := am_up (am_up tw 42 (5 * c) (zwi T ix)) 34 19 ((((c : Nat) : Int) + 1))) (pl := ((5 * c) + 1)) (ix := (ix + 7)) (by omega) hTw (by omega) hatw (by omega)) (fun v30 t30 q30 => ?_) (fun E t30 q30 => by cases q30.1)
      obtain ⟨o30, qa30, qv30, qb30, qc30⟩ := q30
      cases o30
      have hT30 := zTy_t (s := am_up (am_up tw 42 (5 * c) (zwi T ix)) 34 19 ((((c : Nat) : Int) + 1))) hTw qc30
      refine az_to 0 (pc2 := 220) (lv2 := [some (az_r 34), some (az_i ((5 * ((c : Nat) : Int)))), some (az_i (zwi T ix))]) (st2 := [az_i (az_b (zdg (T (ix + 7))))]) (s2 := t30) rfl ?_
      refine az_ifbe 249 223 rfl (by decide) (fun h31 => ?_) (fun h31 => ?_)
      · have h31 : ¬ (zdg (T (ix + 7))) := h31
        refine az_to 1 (pc2 := 250) (lv2 := [some (az_r 34), some (az_i ((5 * ((c : Nat) : Int)))), some (az_i (zwi T ix))]) (st2 := [az_i (0)]) (s2 := t30) rfl ?_
        refine az_retB rfl rfl (by first | decide | omega | exact Or.inl rfl | exact Or.inr rfl) ?_
        have hm : zms T (zRs (zwi T ix).toNat) (ix + (zWd (zwi T ix).toNat).length) = ((ix + 7), false, []) := by
          rw [hRs, zRs_s.2.2.2.2.2.2.2.2.2.1, hW, zms_d1, if_neg h31]
        exact zRB_n h0 hm (by rw [qa30, znw_n h31]) (fun J hJ => by rw [qb30 _ (by omega)]; simp only [am_up]; simp; rw [if_neg (by omega)]; rw [qw4 42 (by decide)]) (fun J J18 J19 J20 => by rw [qc30.1 J J18]; simp [am_up, J19]; exact qw3 J J18 J20) (fun J J34 J42 => by rw [qc30.2 J J34 J42]; funext b; simp [am_up, J34, J42]; rw [qw4 J J34])
      · have h31 : zdg (T (ix + 7)) := h31
        have hat30 : t30 34 18 = ((((ix + 7) + 1) : Nat) : Int) := by rw [qa30, znw_1 h31]
        have hn30 : (ix + 7) < n := zTn hTw (by omega)
        refine az_to 5 (pc2 := 228) (lv2 := [some (az_r 34), some (az_i ((5 * ((c : Nat) : Int)))), some (az_i (zwi T ix))]) (st2 := [az_i (((5 * ((c : Nat) : Int)) + 2)), az_i (1), az_r 34]) (s2 := t30) rfl ?_
        refine az_cl (m2 := am_m_X10_isNext) (as := [az_r 34, az_i (1), az_i (((5 * ((c : Nat) : Int)) + 2))]) (rest := []) 231 rfl rfl ⟨rfl, rfl⟩ (by omega) (zs_X10_isNext_1 (s := t30) (pl := ((5 * c) + 2)) (ix := ((ix + 7) + 1)) (by omega) hT30 (by omega) hat30 (by omega)) (fun v32 t32 q32 => ?_) (fun E t32 q32 => by cases q32.1)
        obtain ⟨o32, qa32, qv32, qb32, qc32⟩ := q32
        cases o32
        have hT32 := zTy_t (s := t30) hT30 qc32
        refine az_to 0 (pc2 := 231) (lv2 := [some (az_r 34), some (az_i ((5 * ((c : Nat) : Int)))), some (az_i (zwi T ix))]) (st2 := [az_i (az_b (T ((ix + 7) + 1) = 32 ∧ zdg (T (((ix + 7) + 1) + 1))))]) (s2 := t32) rfl ?_
        refine az_ifbe 249 234 rfl (by decide) (fun h33 => ?_) (fun h33 => ?_)
        · have h33 : ¬ (T ((ix + 7) + 1) = 32 ∧ zdg (T (((ix + 7) + 1) + 1))) := h33
          refine az_to 1 (pc2 := 250) (lv2 := [some (az_r 34), some (az_i ((5 * ((c : Nat) : Int)))), some (az_i (zwi T ix))]) (st2 := [az_i (0)]) (s2 := t32) rfl ?_
          refine az_retB rfl rfl (by first | decide | omega | exact Or.inl rfl | exact Or.inr rfl) ?_
          by_cases hsp : T ((ix + 7) + 1) = 32
          · have hm : zms T (zRs (zwi T ix).toNat) (ix + (zWd (zwi T ix).toNat).length) = (((ix + 7) + 1) + 1, false, [zvl T (ix + 7) 1]) := by
              rw [hRs, zRs_s.2.2.2.2.2.2.2.2.2.1, hW, zms_d1, if_pos h31, zms_sp, if_pos hsp, zms_d1, if_neg (fun w => h33 ⟨hsp, w⟩)]
            exact zRB_n h0 hm (by rw [qa32, if_pos hsp, znw_n (fun w => h33 ⟨hsp, w⟩)]) (fun J hJ => by rw [qb32 _ (by omega), qb30 _ (by omega)]; simp only [am_up]; simp; rw [if_neg (by omega)]; rw [qw4 42 (by decide)]) (fun J J18 J19 J20 => by rw [qc32.1 J J18, qc30.1 J J18]; simp [am_up, J19]; exact qw3 J J18 J20) (fun J J34 J42 => by rw [qc32.2 J J34 J42, qc30.2 J J34 J42]; funext b; simp [am_up, J34, J42]; rw [qw4 J J34])
          · have hm : zms T (zRs (zwi T ix).toNat) (ix + (zWd (zwi T ix).toNat).length) = (((ix + 7) + 1), false, [zvl T (ix + 7) 1]) := by
              rw [hRs, zRs_s.2.2.2.2.2.2.2.2.2.1, hW, zms_d1, if_pos h31, zms_sp, if_neg hsp]
            exact zRB_n h0 hm (by rw [qa32, if_neg hsp]) (fun J hJ => by rw [qb32 _ (by omega), qb30 _ (by omega)]; simp only [am_up]; simp; rw [if_neg (by omega)]; rw [qw4 42 (by decide)]) (fun J J18 J19 J20 => by rw [qc32.1 J J18, qc30.1 J J18]; simp [am_up, J19]; exact qw3 J J18 J20) (fun J J34 J42 => by rw [qc32.2 J J34 J42, qc30.2 J J34 J42]; funext b; simp [am_up, J34, J42]; rw [qw4 J J34])
        · have h33 : T ((ix + 7) + 1) = 32 ∧ zdg (T (((ix + 7) + 1) + 1)) := h33
          have hat32 : t32 34 18 = ((((((ix + 7) + 1) + 1) + 1) : Nat) : Int) := by rw [qa32, if_pos h33.1, znw_1 h33.2]
          have hn32 : ((ix + 7) + 1) + 1 < n := zTn hTw (by omega)
          refine az_to 5 (pc2 := 239) (lv2 := [some (az_r 34), some (az_i ((5 * ((c : Nat) : Int)))), some (az_i (zwi T ix))]) (st2 := [az_i (((5 * ((c : Nat) : Int)) + 3)), az_i (2), az_r 34]) (s2 := t32) rfl ?_
          refine az_cl (m2 := am_m_X10_isNext) (as := [az_r 34, az_i (2), az_i (((5 * ((c : Nat) : Int)) + 3))]) (rest := []) 242 rfl rfl ⟨rfl, rfl⟩ (by omega) (zs_X10_isNext_2 (s := t32) (pl := ((5 * c) + 3)) (ix := ((((ix + 7) + 1) + 1) + 1)) (by omega) hT32 (by omega) hat32 (by omega)) (fun v34 t34 q34 => ?_) (fun E t34 q34 => by cases q34.1)
          obtain ⟨o34, qa34, qv34, qb34, qc34⟩ := q34
          cases o34
          have hT34 := zTy_t (s := t32) hT32 qc34
          refine az_to 0 (pc2 := 242) (lv2 := [some (az_r 34), some (az_i ((5 * ((c : Nat) : Int)))), some (az_i (zwi T ix))]) (st2 := [az_i (az_b (T ((((ix + 7) + 1) + 1) + 1) = 32 ∧ zdg (T (((((ix + 7) + 1) + 1) + 1) + 1))))]) (s2 := t34) rfl ?_
          refine az_ifbe 249 245 rfl (by decide) (fun h35 => ?_) (fun h35 => ?_)
          · have h35 : ¬ (T ((((ix + 7) + 1) + 1) + 1) = 32 ∧ zdg (T (((((ix + 7) + 1) + 1) + 1) + 1))) := h35
            refine az_to 1 (pc2 := 250) (lv2 := [some (az_r 34), some (az_i ((5 * ((c : Nat) : Int)))), some (az_i (zwi T ix))]) (st2 := [az_i (0)]) (s2 := t34) rfl ?_
            refine az_retB rfl rfl (by first | decide | omega | exact Or.inl rfl | exact Or.inr rfl) ?_
            by_cases hsp : T ((((ix + 7) + 1) + 1) + 1) = 32
            · have hm : zms T (zRs (zwi T ix).toNat) (ix + (zWd (zwi T ix).toNat).length) = (((((ix + 7) + 1) + 1) + 1) + 1, false, [zvl T (ix + 7) 1, zvl T (((ix + 7) + 1) + 1) 1]) := by
                rw [hRs, zRs_s.2.2.2.2.2.2.2.2.2.1, hW, zms_d1, if_pos h31, zms_sp, if_pos h33.1, zms_d1, if_pos h33.2, zms_sp, if_pos hsp, zms_d2, if_neg (fun w => h35 ⟨hsp, w⟩)]
              exact zRB_n h0 hm (by rw [qa34, if_pos hsp, znw_n (fun w => h35 ⟨hsp, w⟩)]) (fun J hJ => by rw [qb34 _ (by omega), qb32 _ (by omega), qb30 _ (by omega)]; simp only [am_up]; simp; rw [if_neg (by omega)]; rw [qw4 42 (by decide)]) (fun J J18 J19 J20 => by rw [qc34.1 J J18, qc32.1 J J18, qc30.1 J J18]; simp [am_up, J19]; exact qw3 J J18 J20) (fun J J34 J42 => by rw [qc34.2 J J34 J42, qc32.2 J J34 J42, qc30.2 J J34 J42]; funext b; simp [am_up, J34, J42]; rw [qw4 J J34])
            · have hm : zms T (zRs (zwi T ix).toNat) (ix + (zWd (zwi T ix).toNat).length) = (((((ix + 7) + 1) + 1) + 1), false, [zvl T (ix + 7) 1, zvl T (((ix + 7) + 1) + 1) 1]) := by
                rw [hRs, zRs_s.2.2.2.2.2.2.2.2.2.1, hW, zms_d1, if_pos h31, zms_sp, if_pos h33.1, zms_d1, if_pos h33.2, zms_sp, if_neg hsp]
              exact zRB_n h0 hm (by rw [qa34, if_neg hsp]) (fun J hJ => by rw [qb34 _ (by omega), qb32 _ (by omega), qb30 _ (by omega)]; simp only [am_up]; simp; rw [if_neg (by omega)]; rw [qw4 42 (by decide)]) (fun J J18 J19 J20 => by rw [qc34.1 J J18, qc32.1 J J18, qc30.1 J J18]; simp [am_up, J19]; exact qw3 J J18 J20) (fun J J34 J42 => by rw [qc34.2 J J34 J42, qc32.2 J J34 J42, qc30.2 J J34 J42]; funext b; simp [am_up, J34, J42]; rw [qw4 J J34])
          · have h35 : T ((((ix + 7) + 1) + 1) + 1) = 32 ∧ zdg (T (((((ix + 7) + 1) + 1) + 1) + 1)) := h35
            refine az_to 2 (pc2 := 250) (lv2 := [some (az_r 34), some (az_i ((5 * ((c : Nat) : Int)))), some (az_i (zwi T ix))]) (st2 := [az_i (1)]) (s2 := t34) rfl ?_
            refine az_retB rfl rfl (by first | decide | omega | exact Or.inl rfl | exact Or.inr rfl) ?_
            have hm : zms T (zRs (zwi T ix).toNat) (ix + (zWd (zwi T ix).toNat).length) = (((((ix + 7) + 1) + 1) + 1) + 1 + znw T 2 (((((ix + 7) + 1) + 1) + 1) + 1), true, [zvl T (ix + 7) 1, zvl T (((ix + 7) + 1) + 1) 1, zvl T (((((ix + 7) + 1) + 1) + 1) + 1) (znw T 2 (((((ix + 7) + 1) + 1) + 1) + 1))]) := by
              rw [hRs, zRs_s.2.2.2.2.2.2.2.2.2.1, hW, zms_d1, if_pos h31, zms_sp, if_pos h33.1, zms_d1, if_pos h33.2, zms_sp, if_pos h35.1, zms_d2, if_pos h35.2, zms_0]
            exact zRB_y h0 hm (by rw [qa34, if_pos h35.1]) (by rw [qc34.1 19 (by decide), qc32.1 19 (by decide), qc30.1 19 (by decide)]; rfl) (by rw [qb34 _ (by omega), qb32 _ (by omega), qb30 _ (by omega)]; simp [am_up]) (fun q hq => match q, hq with
              | 0, _ => by
                show t34 42 (5 * c + 1) = zvl T (ix + 7) 1
                rw [qb34 _ (by omega), qb32 _ (by omega), qv30 h31, znw_1 h31]
              | 1, _ => by
                show t34 42 (5 * c + 2) = zvl T (((ix + 7) + 1) + 1) 1
                rw [qb34 _ (by omega), qv32 h33, znw_1 h33.2]
              | 2, _ => by
                show t34 42 (5 * c + 3) = zvl T (((((ix + 7) + 1) + 1) + 1) + 1) (znw T 2 (((((ix + 7) + 1) + 1) + 1) + 1))
                rw [qv34 h35]
              | q + 3, hq => absurd (show q + 3 < 3 from hq) (by omega)) (fun J hJ => by rw [qb34 _ (by omega), qb32 _ (by omega), qb30 _ (by omega)]; simp only [am_up]; simp; rw [if_neg (by omega)]; rw [qw4 42 (by decide)]) (fun J J18 J19 J20 => by rw [qc34.1 J J18, qc32.1 J J18, qc30.1 J J18]; simp [am_up, J19]; exact qw3 J J18 J20) (fun J J34 J42 => by rw [qc34.2 J J34 J42, qc32.2 J J34 J42, qc30.2 J J34 J42]; funext b; simp [am_up, J34, J42]; rw [qw4 J J34])
    · refine az_swc 156 rfl (by first | assumption | exact ⟨by omega, by omega⟩) (by omega) (off := 117) (by rw [h2]; rfl) (by decide) ?_
      have hW : (zWd (zwi T ix).toNat).length = 4 := by rw [h2]; decide
      have hRs : zRs (zwi T ix).toNat = zRs 10 := by rw [h2]; rfl
      have hatw : tw 34 18 = ((ix + 4 : Nat) : Int) := by rw [hqw.2, hW]
      have hxle : ix + 4 ≤ n := by have := zal_n hTw hi (let ⟨tx, _, _, hp, e⟩ := zWd_ok _ hwy.1; ⟨tx.toList, rfl, hp, e⟩) hwy.2; omega
      refine az_to 5 (pc2 := 161) (lv2 := [some (az_r 34), some (az_i ((5 * ((c : Nat) : Int)))), some (az_i (zwi T ix))]) (st2 := [az_i (((5 * ((c : Nat) : Int)) + 1)), az_i (1), az_r 34]) (s2 := am_up (am_up tw 42 (5 * c) (zwi T ix)) 34 19 ((((c : Nat) : Int) + 1))) rfl ?_
      refine az_cl (m2 := am_m_X10_isNumber) (as := [az_r 34, az_i (1), az_i (((5 * ((c : Nat) : Int)) + 1))]) (rest := []) 164 rfl rfl ⟨rfl, rfl⟩ (by omega) (zs_X10_isNumber_1 (s := am_up (am_up tw 42 (5 * c) (zwi T ix)) 34 19 ((((c : Nat) : Int) + 1))) (pl := ((5 * c) + 1)) (ix := (ix + 4)) (by omega) hTw (by omega) hatw (by omega)) (fun v36 t36 q36 => ?_) (fun E t36 q36 => by cases q36.1)
      obtain ⟨o36, qa36, qv36, qb36, qc36⟩ := q36
      cases o36
      have hT36 := zTy_t (s := am_up (am_up tw 42 (5 * c) (zwi T ix)) 34 19 ((((c : Nat) : Int) + 1))) hTw qc36
      refine az_to 0 (pc2 := 164) (lv2 := [some (az_r 34), some (az_i ((5 * ((c : Nat) : Int)))), some (az_i (zwi T ix))]) (st2 := [az_i (az_b (zdg (T (ix + 4))))]) (s2 := t36) rfl ?_
      refine az_ifbe 182 167 rfl (by decide) (fun h37 => ?_) (fun h37 => ?_)
      · have h37 : ¬ (zdg (T (ix + 4))) := h37
        refine az_to 1 (pc2 := 183) (lv2 := [some (az_r 34), some (az_i ((5 * ((c : Nat) : Int)))), some (az_i (zwi T ix))]) (st2 := [az_i (0)]) (s2 := t36) rfl ?_
        refine az_retB rfl rfl (by first | decide | omega | exact Or.inl rfl | exact Or.inr rfl) ?_
        have hm : zms T (zRs (zwi T ix).toNat) (ix + (zWd (zwi T ix).toNat).length) = ((ix + 4), false, []) := by
          rw [hRs, zRs_s.2.2.2.2.2.2.2.2.2.2.1, hW, zms_d1, if_neg h37]
        exact zRB_n h0 hm (by rw [qa36, znw_n h37]) (fun J hJ => by rw [qb36 _ (by omega)]; simp only [am_up]; simp; rw [if_neg (by omega)]; rw [qw4 42 (by decide)]) (fun J J18 J19 J20 => by rw [qc36.1 J J18]; simp [am_up, J19]; exact qw3 J J18 J20) (fun J J34 J42 => by rw [qc36.2 J J34 J42]; funext b; simp [am_up, J34, J42]; rw [qw4 J J34])
      · have h37 : zdg (T (ix + 4)) := h37
        have hat36 : t36 34 18 = ((((ix + 4) + 1) : Nat) : Int) := by rw [qa36, znw_1 h37]
        have hn36 : (ix + 4) < n := zTn hTw (by omega)
        refine az_to 5 (pc2 := 172) (lv2 := [some (az_r 34), some (az_i ((5 * ((c : Nat) : Int)))), some (az_i (zwi T ix))]) (st2 := [az_i (((5 * ((c : Nat) : Int)) + 2)), az_i (2), az_r 34]) (s2 := t36) rfl ?_
        refine az_cl (m2 := am_m_X10_isNext) (as := [az_r 34, az_i (2), az_i (((5 * ((c : Nat) : Int)) + 2))]) (rest := []) 175 rfl rfl ⟨rfl, rfl⟩ (by omega) (zs_X10_isNext_2 (s := t36) (pl := ((5 * c) + 2)) (ix := ((ix + 4) + 1)) (by omega) hT36 (by omega) hat36 (by omega)) (fun v38 t38 q38 => ?_) (fun E t38 q38 => by cases q38.1)
        obtain ⟨o38, qa38, qv38, qb38, qc38⟩ := q38
        cases o38
        have hT38 := zTy_t (s := t36) hT36 qc38
        refine az_to 0 (pc2 := 175) (lv2 := [some (az_r 34), some (az_i ((5 * ((c : Nat) : Int)))), some (az_i (zwi T ix))]) (st2 := [az_i (az_b (T ((ix + 4) + 1) = 32 ∧ zdg (T (((ix + 4) + 1) + 1))))]) (s2 := t38) rfl ?_
        refine az_ifbe 182 178 rfl (by decide) (fun h39 => ?_) (fun h39 => ?_)
        · have h39 : ¬ (T ((ix + 4) + 1) = 32 ∧ zdg (T (((ix + 4) + 1) + 1))) := h39
          refine az_to 1 (pc2 := 183) (lv2 := [some (az_r 34), some (az_i ((5 * ((c : Nat) : Int)))), some (az_i (zwi T ix))]) (st2 := [az_i (0)]) (s2 := t38) rfl ?_
          refine az_retB rfl rfl (by first | decide | omega | exact Or.inl rfl | exact Or.inr rfl) ?_
          by_cases hsp : T ((ix + 4) + 1) = 32
          · have hm : zms T (zRs (zwi T ix).toNat) (ix + (zWd (zwi T ix).toNat).length) = (((ix + 4) + 1) + 1, false, [zvl T (ix + 4) 1]) := by
              rw [hRs, zRs_s.2.2.2.2.2.2.2.2.2.2.1, hW, zms_d1, if_pos h37, zms_sp, if_pos hsp, zms_d2, if_neg (fun w => h39 ⟨hsp, w⟩)]
            exact zRB_n h0 hm (by rw [qa38, if_pos hsp, znw_n (fun w => h39 ⟨hsp, w⟩)]) (fun J hJ => by rw [qb38 _ (by omega), qb36 _ (by omega)]; simp only [am_up]; simp; rw [if_neg (by omega)]; rw [qw4 42 (by decide)]) (fun J J18 J19 J20 => by rw [qc38.1 J J18, qc36.1 J J18]; simp [am_up, J19]; exact qw3 J J18 J20) (fun J J34 J42 => by rw [qc38.2 J J34 J42, qc36.2 J J34 J42]; funext b; simp [am_up, J34, J42]; rw [qw4 J J34])
          · have hm : zms T (zRs (zwi T ix).toNat) (ix + (zWd (zwi T ix).toNat).length) = (((ix + 4) + 1), false, [zvl T (ix + 4) 1]) := by
              rw [hRs, zRs_s.2.2.2.2.2.2.2.2.2.2.1, hW, zms_d1, if_pos h37, zms_sp, if_neg hsp]
            exact zRB_n h0 hm (by rw [qa38, if_neg hsp]) (fun J hJ => by rw [qb38 _ (by omega), qb36 _ (by omega)]; simp only [am_up]; simp; rw [if_neg (by omega)]; rw [qw4 42 (by decide)]) (fun J J18 J19 J20 => by rw [qc38.1 J J18, qc36.1 J J18]; simp [am_up, J19]; exact qw3 J J18 J20) (fun J J34 J42 => by rw [qc38.2 J J34 J42, qc36.2 J J34 J42]; funext b; simp [am_up, J34, J42]; rw [qw4 J J34])
        · have h39 : T ((ix + 4) + 1) = 32 ∧ zdg (T (((ix + 4) + 1) + 1)) := h39
          refine az_to 2 (pc2 := 183) (lv2 := [some (az_r 34), some (az_i ((5 * ((c : Nat) : Int)))), some (az_i (zwi T ix))]) (st2 := [az_i (1)]) (s2 := t38) rfl ?_
          refine az_retB rfl rfl (by first | decide | omega | exact Or.inl rfl | exact Or.inr rfl) ?_
          have hm : zms T (zRs (zwi T ix).toNat) (ix + (zWd (zwi T ix).toNat).length) = (((ix + 4) + 1) + 1 + znw T 2 (((ix + 4) + 1) + 1), true, [zvl T (ix + 4) 1, zvl T (((ix + 4) + 1) + 1) (znw T 2 (((ix + 4) + 1) + 1))]) := by
            rw [hRs, zRs_s.2.2.2.2.2.2.2.2.2.2.1, hW, zms_d1, if_pos h37, zms_sp, if_pos h39.1, zms_d2, if_pos h39.2, zms_0]
          exact zRB_y h0 hm (by rw [qa38, if_pos h39.1]) (by rw [qc38.1 19 (by decide), qc36.1 19 (by decide)]; rfl) (by rw [qb38 _ (by omega), qb36 _ (by omega)]; simp [am_up]) (fun q hq => match q, hq with
            | 0, _ => by
              show t38 42 (5 * c + 1) = zvl T (ix + 4) 1
              rw [qb38 _ (by omega), qv36 h37, znw_1 h37]
            | 1, _ => by
              show t38 42 (5 * c + 2) = zvl T (((ix + 4) + 1) + 1) (znw T 2 (((ix + 4) + 1) + 1))
              rw [qv38 h39]
            | q + 2, hq => absurd (show q + 2 < 2 from hq) (by omega)) (fun J hJ => by rw [qb38 _ (by omega), qb36 _ (by omega)]; simp only [am_up]; simp; rw [if_neg (by omega)]; rw [qw4 42 (by decide)]) (fun J J18 J19 J20 => by rw [qc38.1 J J18, qc36.1 J J18]; simp [am_up, J19]; exact qw3 J J18 J20) (fun J J34 J42 => by rw [qc38.2 J J34 J42, qc36.2 J J34 J42]; funext b; simp [am_up, J34, J42]; rw [qw4 J J34])
    · refine az_swc 251 rfl (by first | assumption | exact ⟨by omega, by omega⟩) (by omega) (off := 212) (by rw [h2]; rfl) (by decide) ?_
      have hW : (zWd (zwi T ix).toNat).length = 7 := by rw [h2]; decide
      have hRs : zRs (zwi T ix).toNat = zRs 11 := by rw [h2]; rfl
      have hatw : tw 34 18 = ((ix + 7 : Nat) : Int) := by rw [hqw.2, hW]
      have hxle : ix + 7 ≤ n := by have := zal_n hTw hi (let ⟨tx, _, _, hp, e⟩ := zWd_ok _ hwy.1; ⟨tx.toList, rfl, hp, e⟩) hwy.2; omega
      refine az_to 5 (pc2 := 256) (lv2 := [some (az_r 34), some (az_i ((5 * ((c : Nat) : Int)))), some (az_i (zwi T ix))]) (st2 := [az_i (((5 * ((c : Nat) : Int)) + 1)), az_i (1), az_r 34]) (s2 := am_up (am_up tw 42 (5 * c) (zwi T ix)) 34 19 ((((c : Nat) : Int) + 1))) rfl ?_
      refine az_cl (m2 := am_m_X10_isNumber) (as := [az_r 34, az_i (1), az_i (((5 * ((c : Nat) : Int)) + 1))]) (rest := []) 259 rfl rfl ⟨rfl, rfl⟩ (by omega) (zs_X10_isNumber_1 (s := am_up (am_up tw 42 (5 * c) (zwi T ix)) 34 19 ((((c : Nat) : Int) + 1))) (pl := ((5 * c) + 1)) (ix := (ix + 7)) (by omega) hTw (by omega) hatw (by omega)) (fun v40 t40 q40 => ?_) (fun E t40 q40 => by cases q40.1)
      obtain ⟨o40, qa40, qv40, qb40, qc40⟩ := q40
      cases o40
      have hT40 := zTy_t (s := am_up (am_up tw 42 (5 * c) (zwi T ix)) 34 19 ((((c : Nat) : Int) + 1))) hTw qc40
      refine az_to 0 (pc2 := 259) (lv2 := [some (az_r 34), some (az_i ((5 * ((c : Nat) : Int)))), some (az_i (zwi T ix))]) (st2 := [az_i (az_b (zdg (T (ix + 7))))]) (s2 := t40) rfl ?_
      refine az_ifbe 276 262 rfl (by decide) (fun h41 => ?_) (fun h41 => ?_)
      · have h41 : ¬ (zdg (T (ix + 7))) := h41
        refine az_to 1 (pc2 := 277) (lv2 := [some (az_r 34), some (az_i ((5 * ((c : Nat) : Int)))), some (az_i (zwi T ix))]) (st2 := [az_i (0)]) (s2 := t40) rfl ?_
        refine az_retB rfl rfl (by first | decide | omega | exact Or.inl rfl | exact Or.inr rfl) ?_
        have hm : zms T (zRs (zwi T ix).toNat) (ix + (zWd (zwi T ix).toNat).length) = ((ix + 7), false, []) := by
          rw [hRs, zRs_s.2.2.2.2.2.2.2.2.2.2.2.1, hW, zms_d1, if_neg h41]
        exact zRB_n h0 hm (by rw [qa40, znw_n h41]) (fun J hJ => by rw [qb40 _ (by omega)]; simp only [am_up]; simp; rw [if_neg (by omega)]; rw [qw4 42 (by decide)]) (fun J J18 J19 J20 => by rw [qc40.1 J J18]; simp [am_up, J19]; exact qw3 J J18 J20) (fun J J34 J42 => by rw [qc40.2 J J34 J42]; funext b; simp [am_up, J34, J42]; rw [qw4 J J34])
      · have h41 : zdg (T (ix + 7)) := h41
        have hat40 : t40 34 18 = ((((ix + 7) + 1) : Nat) : Int) := by rw [qa40, znw_1 h41]
        have hn40 : (ix + 7) < n := zTn hTw (by omega)
        refine az_to 4 (pc2 := 266) (lv2 := [some (az_r 34), some (az_i ((5 * ((c : Nat) : Int)))), some (az_i (zwi T ix))]) (st2 := [az_i (((5 * ((c : Nat) : Int)) + 2)), az_r 34]) (s2 := t40) rfl ?_
        refine az_cl (m2 := am_m_X10_isForTroll) (as := [az_r 34, az_i (((5 * ((c : Nat) : Int)) + 2))]) (rest := []) 269 rfl rfl ⟨rfl, rfl⟩ (by omega) (zs_X10_isForTroll (s := t40) (pl := ((5 * c) + 2)) (ix := ((ix + 7) + 1)) (by omega) hT40 (by omega) hat40 (by omega)) (fun v42 t42 q42 => ?_) (fun E t42 q42 => by cases q42.1)
        obtain ⟨o42, qa42, qv42, qb42, qc42⟩ := q42
        cases o42
        have hT42 := zTy_t (s := t40) hT40 qc42
        refine az_to 0 (pc2 := 269) (lv2 := [some (az_r 34), some (az_i ((5 * ((c : Nat) : Int)))), some (az_i (zwi T ix))]) (st2 := [az_i (az_b (T ((ix + 7) + 1) = 43 ∨ T ((ix + 7) + 1) = 45))]) (s2 := t42) rfl ?_
        refine az_ifbe 276 272 rfl (by decide) (fun h43 => ?_) (fun h43 => ?_)
        · have h43 : ¬ (T ((ix + 7) + 1) = 43 ∨ T ((ix + 7) + 1) = 45) := h43
          refine az_to 1 (pc2 := 277) (lv2 := [some (az_r 34), some (az_i ((5 * ((c : Nat) : Int)))), some (az_i (zwi T ix))]) (st2 := [az_i (0)]) (s2 := t42) rfl ?_
          refine az_retB rfl rfl (by first | decide | omega | exact Or.inl rfl | exact Or.inr rfl) ?_
          have hm : zms T (zRs (zwi T ix).toNat) (ix + (zWd (zwi T ix).toNat).length) = (((ix + 7) + 1), false, [zvl T (ix + 7) 1]) := by
            rw [hRs, zRs_s.2.2.2.2.2.2.2.2.2.2.2.1, hW, zms_d1, if_pos h41, zms_pm, if_neg h43]
          exact zRB_n h0 hm (by rw [qa42, if_neg h43]) (fun J hJ => by rw [qb42 _ (by omega), qb40 _ (by omega)]; simp only [am_up]; simp; rw [if_neg (by omega)]; rw [qw4 42 (by decide)]) (fun J J18 J19 J20 => by rw [qc42.1 J J18, qc40.1 J J18]; simp [am_up, J19]; exact qw3 J J18 J20) (fun J J34 J42 => by rw [qc42.2 J J34 J42, qc40.2 J J34 J42]; funext b; simp [am_up, J34, J42]; rw [qw4 J J34])
        · have h43 : T ((ix + 7) + 1) = 43 ∨ T ((ix + 7) + 1) = 45 := h43
          refine az_to 2 (pc2 := 277) (lv2 := [some (az_r 34), some (az_i ((5 * ((c : Nat) : Int)))), some (az_i (zwi T ix))]) (st2 := [az_i (1)]) (s2 := t42) rfl ?_
          refine az_retB rfl rfl (by first | decide | omega | exact Or.inl rfl | exact Or.inr rfl) ?_
          have hm : zms T (zRs (zwi T ix).toNat) (ix + (zWd (zwi T ix).toNat).length) = (((ix + 7) + 1) + 1, true, [zvl T (ix + 7) 1, az_b (T ((ix + 7) + 1) = 43)]) := by
            rw [hRs, zRs_s.2.2.2.2.2.2.2.2.2.2.2.1, hW, zms_d1, if_pos h41, zms_pm, if_pos h43, zms_0]
          exact zRB_y h0 hm (by rw [qa42, if_pos h43]) (by rw [qc42.1 19 (by decide), qc40.1 19 (by decide)]; rfl) (by rw [qb42 _ (by omega), qb40 _ (by omega)]; simp [am_up]) (fun q hq => match q, hq with
            | 0, _ => by
              show t42 42 (5 * c + 1) = zvl T (ix + 7) 1
              rw [qb42 _ (by omega), qv40 h41, znw_1 h41]
            | 1, _ => by
              show t42 42 (5 * c + 2) = az_b (T ((ix + 7) + 1) = 43)
              rw [qv42]
            | q + 2, hq => absurd (show q + 2 < 2 from hq) (by omega)) (fun J hJ => by rw [qb42 _ (by omega), qb40 _ (by omega)]; simp only [am_up]; simp; rw [if_neg (by omega)]; rw [qw4 42 (by decide)]) (fun J J18 J19 J20 => by rw [qc42.1 J J18, qc40.1 J J18]; simp [am_up, J19]; exact qw3 J J18 J20) (fun J J34 J42 => by rw [qc42.2 J J34 J42, qc40.2 J J34 J42]; funext b; simp [am_up, J34, J42]; rw [qw4 J J34])
    · refine az_swc 278 rfl (by first | assumption | exact ⟨by omega, by omega⟩) (by omega) (off := 239) (by rw [h2]; rfl) (by decide) ?_
      have hW : (zWd (zwi T ix).toNat).length = 5 := by rw [h2]; decide
      have hRs : zRs (zwi T ix).toNat = zRs 12 := by rw [h2]; rfl
      have hatw : tw 34 18 = ((ix + 5 : Nat) : Int) := by rw [hqw.2, hW]
      have hxle : ix + 5 ≤ n := by have := zal_n hTw hi (let ⟨tx, _, _, hp, e⟩ := zWd_ok _ hwy.1; ⟨tx.toList, rfl, hp, e⟩) hwy.2; omega
      refine az_to 5 (pc2 := 283) (lv2 := [some (az_r 34), some (az_i ((5 * ((c : Nat) : Int)))), some (az_i (zwi T ix))]) (st2 := [az_i (((5 * ((c : Nat) : Int)) + 1)), az_i (2), az_r 34]) (s2 := am_up (am_up tw 42 (5 * c) (zwi T ix)) 34 19 ((((c : Nat) : Int) + 1))) rfl ?_
      refine az_cl (m2 := am_m_X10_isNumber) (as := [az_r 34, az_i (2), az_i (((5 * ((c : Nat) : Int)) + 1))]) (rest := []) 286 rfl rfl ⟨rfl, rfl⟩ (by omega) (zs_X10_isNumber_2 (s := am_up (am_up tw 42 (5 * c) (zwi T ix)) 34 19 ((((c : Nat) : Int) + 1))) (pl := ((5 * c) + 1)) (ix := (ix + 5)) (by omega) hTw (by omega) hatw (by omega)) (fun v44 t44 q44 => ?_) (fun E t44 q44 => by cases q44.1)
      obtain ⟨o44, qa44, qv44, qb44, qc44⟩ := q44
      cases o44
      have hT44 := zTy_t (s := am_up (am_up tw 42 (5 * c) (zwi T ix)) 34 19 ((((c : Nat) : Int) + 1))) hTw qc44
      refine az_to 0 (pc2 := 286) (lv2 := [some (az_r 34), some (az_i ((5 * ((c : Nat) : Int)))), some (az_i (zwi T ix))]) (st2 := [az_i (az_b (zdg (T (ix + 5))))]) (s2 := t44) rfl ?_
      refine az_retP rfl rfl ?_
      by_cases hB : zdg (T (ix + 5))
      · rw [az_b1 hB]
        have hm : zms T (zRs (zwi T ix).toNat) (ix + (zWd (zwi T ix).toNat).length) = ((ix + 5) + znw T 2 (ix + 5), true, [zvl T (ix + 5) (znw T 2 (ix + 5))]) := by
          rw [hRs, zRs_s.2.2.2.2.2.2.2.2.2.2.2.2, hW, zms_d2, if_pos hB, zms_0]
        exact zRB_y h0 hm (by rw [qa44]) (by rw [qc44.1 19 (by decide)]; rfl) (by rw [qb44 _ (by omega)]; simp [am_up]) (fun q hq => match q, hq with
          | 0, _ => by
            show t44 42 (5 * c + 1) = zvl T (ix + 5) (znw T 2 (ix + 5))
            rw [qv44 hB]
          | q + 1, hq => absurd (show q + 1 < 1 from hq) (by omega)) (fun J hJ => by rw [qb44 _ (by omega)]; simp only [am_up]; simp; rw [if_neg (by omega)]; rw [qw4 42 (by decide)]) (fun J J18 J19 J20 => by rw [qc44.1 J J18]; simp [am_up, J19]; exact qw3 J J18 J20) (fun J J34 J42 => by rw [qc44.2 J J34 J42]; funext b; simp [am_up, J34, J42]; rw [qw4 J J34])
      · rw [az_b0 hB]
        have hm : zms T (zRs (zwi T ix).toNat) (ix + (zWd (zwi T ix).toNat).length) = ((ix + 5), false, []) := by
          rw [hRs, zRs_s.2.2.2.2.2.2.2.2.2.2.2.2, hW, zms_d2, if_neg hB]
        exact zRB_n h0 hm (by rw [qa44, znw_n hB]) (fun J hJ => by rw [qb44 _ (by omega)]; simp only [am_up]; simp; rw [if_neg (by omega)]; rw [qw4 42 (by decide)]) (fun J J18 J19 J20 => by rw [qc44.1 J J18]; simp [am_up, J19]; exact qw3 J J18 J20) (fun J J34 J42 => by rw [qc44.2 J J34 J42]; funext b; simp [am_up, J34, J42]; rw [qw4 J J34])
  · have h1 : ¬ (0 ≤ zwi T ix) := h1
    refine az_to 1 (pc2 := 8) (lv2 := [some (az_r 34), none, none]) (st2 := [az_i (0)]) (s2 := tw) rfl ?_
    refine az_retB rfl rfl (by first | decide | omega | exact Or.inl rfl | exact Or.inr rfl) ?_
    exact zRB_w (by assumption) (by rw [(qw2 (by assumption)).1]) (fun J hJ => by rw [qw4 42 (by decide)]) (fun J J18 J19 J20 => qw3 J J18 J20) (fun J J34 J42 => qw4 J J34)
