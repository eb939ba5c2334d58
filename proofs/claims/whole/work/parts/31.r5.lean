/-! REFERENCE, 5: the questions of its face; written by program (wip/tools/zg/r5.py) -/
/-- a question leaves all but what was thrown, and the row of the ways -/
def zFm (s t : az_S) (k : Nat) : Prop := t 34 6 = k ∧ (∀ j, j ≠ 6 → t 34 j = s 34 j) ∧ ∀ i, i ≠ 34 → i ≠ 39 → t i = s i
abbrev zmq (s : az_S) (r : Nat × Int) : az_O → az_S → Prop := fun o t => o = .inl (some (az_i (if r.1 = 0 then r.2 else 0))) ∧ zFm s t r.1
theorem zh6_0 {S : zR} {D : Nat → Int} {v : Nat} : zh6 S D v 0 6 := Or.inl ⟨rfl, fun j u hj => absurd hj (by omega)⟩
theorem zh6_no {S : zR} {D : Nat → Int} {v k : Nat} {x : Int} (h : zh6 S D v k x) (hn : ∀ u : Nat, zac S k v = ((u : Nat) : Int) → D u + ztk S k ≠ D v) : zh6 S D v (k + 1) x := by
  rcases h with ⟨h1, h2⟩ | ⟨u, j, h1, h2, h3, h4, h5, h6⟩
  · refine Or.inl ⟨h1, fun j u hj hz => ?_⟩
    by_cases q : j = k
    · subst q; exact hn u hz
    · exact h2 j u (by omega) hz
  · refine Or.inr ⟨u, j, h1, h2, by omega, h4, h5, fun j2 u2 hj hz hd => ?_⟩
    by_cases q : j2 = k
    · subst q; exact absurd hd (hn u2 hz)
    · exact h6 j2 u2 (by omega) hz hd
theorem zh6_yes {S : zR} {D : Nat → Int} {v k w : Nat} {x : Int} (h : zh6 S D v k x) (hw : w < 6) (hz : zac S k v = ((w : Nat) : Int)) (hd : D w + ztk S k = D v) : zh6 S D v (k + 1) (if x < ((w : Nat) : Int) then x else ((w : Nat) : Int)) := by
  right
  rcases h with ⟨h1, h2⟩ | ⟨u, j, h1, h2, h3, h4, h5, h6⟩
  · refine ⟨w, k, by rw [if_neg (by omega)], hw, by omega, hz, hd, fun j2 u2 hj hz2 hd2 => ?_⟩
    by_cases q : j2 = k
    · subst q; omega
    · exact absurd hd2 (h2 j2 u2 (by omega) hz2)
  · by_cases q9 : x < ((w : Nat) : Int)
    · refine ⟨u, j, by rw [if_pos q9]; exact h1, h2, by omega, h4, h5, fun j2 u2 hj hz2 hd2 => ?_⟩
      by_cases q : j2 = k
      · subst q; omega
      · exact h6 j2 u2 (by omega) hz2 hd2
    · refine ⟨w, k, by rw [if_neg q9], hw, by omega, hz, hd, fun j2 u2 hj hz2 hd2 => ?_⟩
      by_cases q : j2 = k
      · subst q; omega
      · have := h6 j2 u2 (by omega) hz2 hd2; omega
theorem zac_of {S : zR} {h : Nat} (hI : zInv S h) (hh : h ≤ 10000) {k v : Nat} (hk : k < zn S 0) : ((zB S k 0 = v ∨ zB S k 1 = v) → zac S k v = zB S k 0 + zB S k 1 - v) ∧ (¬ (zB S k 0 = v ∨ zB S k 1 = v) → zac S k v = -1) := by
  have h1 := zI_b hI hh hk
  unfold zac
  constructor
  · intro q
    split
    · omega
    · rw [if_pos (by omega)]; omega
  · intro q
    rw [if_neg (by omega), if_neg (by omega)]
/-- the least lengths are there -/
theorem zgd_ex {s : az_S} {S : zR} {h : Nat} (hR : zRel (s 3) S) (hI : zInv S h) (hh : h ≤ 10000) (m f : Nat) (hf : f < 6) : ∃ E, zgd S m f 1000 E := by
  obtain ⟨_, _, t9, _, q9⟩ := zs_X7_reachByLands (d := 5) (s := am_ur s 8 (zln S m)) (m := m) (by omega) hR hI hh (fun b _ => rfl) hf 0 (fun _ => 0) (fun _ _ => 0) (fun _ _ => 0)
  exact ⟨_, q9.2.1⟩
theorem zric_irr {S : zR} {t : Nat} : ¬ zric S t t := by
  unfold zric
  rw [if_neg (by omega), if_neg (by omega)]
  omega
theorem ztir_irr {S : zR} {t : Nat} : ¬ ztir S t t := by
  unfold ztir
  rw [if_neg (by omega), if_neg (by omega)]
  omega
/-- the next end, as the reference looks for it -/
def zN1 (S : zR) (k : Nat) : Int := zfo k (fun t e => if S 3 < zT S t 3 then (if e < zT S t 3 then e else zT S t 3) else e) 99980001
def zN2 (S : zR) (k : Nat) : Int := zfo k (fun b e => if S 3 < zB S b 4 then (if e < zB S b 4 then e else zB S b 4) else e) (zN1 S (zn S 1))
theorem zN1_r {S : zR} {h : Nat} (hI : zInv S h) (hh : h ≤ 10000) : ∀ {k : Nat}, k ≤ zn S 1 → (zne1 S k = -1 ∧ zN1 S k = 99980001) ∨ (zne1 S k = zN1 S k ∧ 0 < zN1 S k ∧ zN1 S k ≤ 480048)
  | 0, _ => Or.inl ⟨rfl, rfl⟩
  | k + 1, hk => by
    have h0 := zI_h hI hh
    have h1 := zN1_r hI hh (k := k) (by omega)
    have h2 := zI_t hI hh (t := k) (by omega)
    have e1 : zne1 S (k + 1) = zee (S 3) (zne1 S k) (zT S k 3) := rfl
    have e2 : zN1 S (k + 1) = if S 3 < zT S k 3 then (if zN1 S k < zT S k 3 then zN1 S k else zT S k 3) else zN1 S k := rfl
    rw [e1, e2]
    unfold zee
    by_cases q : S 3 < zT S k 3
    · rw [if_pos q]
      by_cases q2 : zN1 S k < zT S k 3
      · rw [if_pos q2, if_neg (by omega)]; omega
      · rw [if_neg q2]
        by_cases q3 : zne1 S k = -1 ∨ zT S k 3 < zne1 S k
        · rw [if_pos ⟨q, q3⟩]; omega
        · rw [if_neg (fun w => q3 w.2)]; omega
    · rw [if_neg q, if_neg (fun w => q w.1)]; exact h1
theorem zN2_r {S : zR} {h : Nat} (hI : zInv S h) (hh : h ≤ 10000) : ∀ {k : Nat}, k ≤ zn S 0 → (zne2 S k = -1 ∧ zN2 S k = 99980001) ∨ (zne2 S k = zN2 S k ∧ 0 < zN2 S k ∧ zN2 S k ≤ 480048)
  | 0, _ => zN1_r hI hh (Nat.le_refl _)
  | k + 1, hk => by
    have h0 := zI_h hI hh
    have h1 := zN2_r hI hh (k := k) (by omega)
    have h2 := zI_b hI hh (b := k) (by omega)
    have e1 : zne2 S (k + 1) = zee (S 3) (zne2 S k) (zB S k 4) := rfl
    have e2 : zN2 S (k + 1) = if S 3 < zB S k 4 then (if zN2 S k < zB S k 4 then zN2 S k else zB S k 4) else zN2 S k := rfl
    rw [e1, e2]
    unfold zee
    by_cases q : S 3 < zB S k 4
    · rw [if_pos q]
      by_cases q2 : zN2 S k < zB S k 4
      · rw [if_pos q2, if_neg (by omega)]; omega
      · rw [if_neg q2]
        by_cases q3 : zne2 S k = -1 ∨ zB S k 4 < zne2 S k
        · rw [if_pos ⟨q, q3⟩]; omega
        · rw [if_neg (fun w => q3 w.2)]; omega
    · rw [if_neg q, if_neg (fun w => q w.1)]; exact h1
set_option maxRecDepth 100000 in
set_option maxHeartbeats 800000 in
theorem zs_X10_bridgeOf {d : Nat} {s : az_S} (hd : 4 ≤ d) {S : zR} {h : Nat} (hS : s 35 = S) (hI : zInv S h) (hh : h ≤ 10000) {zb : Int} {zw : Int} (h_zb : az_in zb) (h_zw : az_in zw) : az_R d am_m_X10_bridgeOf 0 (az_ini (am_mL am_m_X10_bridgeOf) [az_r 34, az_i (zb), az_i (zw)]) [] (s) (zmq s (zq_bridgeOf S zb zw)) := by
  have hz := zI_h hI hh
  have hs0 : s 35 0 = ((zn S 0 : Nat) : Int) := by rw [hS, hz.2.1.1]
  have hs1 : s 35 1 = ((zn S 1 : Nat) : Int) := by rw [hS, hz.2.1.2.1]
  have hs2 : s 35 2 = ((zn S 2 : Nat) : Int) := by rw [hS, hz.2.1.2.2]
  have hs3 : s 35 3 = S 3 := by rw [hS]
  have hs5 : s 35 5 = S 5 := by rw [hS]
  refine az_to 0 (pc2 := 0) (lv2 := [some (az_r 34), some (az_i (zb)), some (az_i (zw))]) (st2 := []) (s2 := s) rfl ?_
  refine az_to 3 (pc2 := 3) (lv2 := [some (az_r 34), some (az_i (zb)), some (az_i (zw))]) (st2 := [az_i (zb), az_r 34, az_r 34]) (s2 := s) rfl ?_
  refine az_clv (v := some (az_i (az_b (0 ≤ zb ∧ zb < ((zn S 0 : Nat) : Int))))) (t := s) (m2 := am_m_X10_isBridge) (as := [az_r 34, az_i (zb)]) (rest := [az_r 34]) 6 rfl rfl ⟨rfl, rfl⟩ (by omega) (zs_X10_isBridge (s := s) (z := zb) (by omega) hS hI hh (by first | assumption | exact ⟨by omega, by omega⟩)) ?_
  refine az_to 0 (pc2 := 6) (lv2 := [some (az_r 34), some (az_i (zb)), some (az_i (zw))]) (st2 := [az_i (az_b (0 ≤ zb ∧ zb < ((zn S 0 : Nat) : Int))), az_r 34]) (s2 := s) rfl ?_
  refine az_ifbn 13 9 rfl (by decide) (fun h1 => ?_) (fun h1 => ?_)
  · have h1 : 0 ≤ zb ∧ zb < ((zn S 0 : Nat) : Int) := h1
    obtain ⟨b, rfl⟩ : ∃ n0 : Nat, zb = n0 := ⟨zb.toNat, by omega⟩
    have hzb := zI_b hI hh (b := b) (by omega)
    refine az_to 0 (pc2 := 13) (lv2 := [some (az_r 34), some (az_i (((b : Nat) : Int))), some (az_i (zw))]) (st2 := [az_r 34]) (s2 := s) (rfl) ?_
    refine az_to 2 (pc2 := 15) (lv2 := [some (az_r 34), some (az_i (((b : Nat) : Int))), some (az_i (zw))]) (st2 := [az_i (1), az_i (0), az_r 34]) (s2 := s) rfl ?_
    refine az_clv (v := some (az_i (0))) (t := am_up s 34 6 (0)) (m2 := am_m_X10_isThrown) (as := [az_r 34, az_i (0), az_i (1)]) (rest := []) 18 rfl rfl ⟨rfl, rfl⟩ (by omega) (zs_X10_isThrown_f (s := s) (v := 1) (by omega) ) ?_
    refine az_to 0 (pc2 := 18) (lv2 := [some (az_r 34), some (az_i (((b : Nat) : Int))), some (az_i (zw))]) (st2 := [az_i (0)]) (s2 := am_up s 34 6 (0)) rfl ?_
    refine az_ifc 44 21 rfl (by decide) ⟨by decide, by decide⟩ (fun h => absurd h (by unfold az_cnd; decide)) (fun _ => ?_)
    refine az_to 4 (pc2 := 26) (lv2 := [some (az_r 34), some (az_i (((b : Nat) : Int))), some (az_i (zw))]) (st2 := [az_i (8), az_i (0), az_i (zw), az_r 34]) (s2 := am_up s 34 6 (0)) rfl ?_
    refine az_clv (v := some (az_i (az_b (0 ≤ zw ∧ zw ≤ 8)))) (t := am_up s 34 6 (0)) (m2 := am_m_X10_isIn) (as := [az_i (zw), az_i (0), az_i (8)]) (rest := [az_r 34]) 29 rfl rfl ⟨rfl, rfl⟩ (by omega) (zs_X10_isIn (s := am_up s 34 6 (0)) (z := zw) (lo := 0) (hi := 8) (by omega) (by first | assumption | exact ⟨by omega, by omega⟩) ⟨by decide, by decide⟩ ⟨by decide, by decide⟩) ?_
    refine az_to 0 (pc2 := 29) (lv2 := [some (az_r 34), some (az_i (((b : Nat) : Int))), some (az_i (zw))]) (st2 := [az_i (az_b (0 ≤ zw ∧ zw ≤ 8)), az_r 34]) (s2 := am_up s 34 6 (0)) rfl ?_
    refine az_ifbn 36 32 rfl (by decide) (fun h2 => ?_) (fun h2 => ?_)
    · have h2 : 0 ≤ zw ∧ zw ≤ 8 := h2
      refine az_to 2 (pc2 := 38) (lv2 := [some (az_r 34), some (az_i (((b : Nat) : Int))), some (az_i (zw))]) (st2 := [az_i (2), az_i (0), az_r 34]) (s2 := am_up s 34 6 (0)) rfl ?_
      refine az_clv (v := some (az_i (0))) (t := am_up (am_up s 34 6 (0)) 34 6 (0)) (m2 := am_m_X10_isThrown) (as := [az_r 34, az_i (0), az_i (2)]) (rest := []) 41 rfl rfl ⟨rfl, rfl⟩ (by omega) (zs_X10_isThrown_f (s := am_up s 34 6 (0)) (v := 2) (by omega) ) ?_
      refine az_to 0 (pc2 := 41) (lv2 := [some (az_r 34), some (az_i (((b : Nat) : Int))), some (az_i (zw))]) (st2 := [az_i (0)]) (s2 := am_up (am_up s 34 6 (0)) 34 6 (0)) rfl ?_
      refine az_ifc 46 44 rfl (by decide) ⟨by decide, by decide⟩ (fun _ => ?_) (fun h => absurd (show az_cnd _ _ _ by unfold az_cnd; decide) h)
      refine az_to 1 (pc2 := 47) (lv2 := [some (az_r 34), some (az_i (((b : Nat) : Int))), some (az_i (zw))]) (st2 := [az_i (zw)]) (s2 := am_up (am_up s 34 6 (0)) 34 6 (0)) rfl ?_
      have h3 : (zw < 0 ∨ 7 < zw) ∨ zw = 0 ∨ zw = 1 ∨ zw = 2 ∨ zw = 3 ∨ zw = 4 ∨ zw = 5 ∨ zw = 6 ∨ zw = 7 := by omega
      rcases h3 with h3 | h3 | h3 | h3 | h3 | h3 | h3 | h3 | h3
      · refine az_swd 132 rfl (by first | assumption | exact ⟨by omega, by omega⟩) h3 (by decide) ?_
        refine az_to 3 (pc2 := 136) (lv2 := [some (az_r 34), some (az_i (((b : Nat) : Int))), some (az_i (zw))]) (st2 := [az_i (6), az_i (((b : Nat) : Int)), az_r 34]) (s2 := am_up (am_up s 34 6 (0)) 34 6 (0)) rfl ?_
        refine az_clv (v := some (az_i (zB S b 6))) (t := am_up (am_up s 34 6 (0)) 34 6 (0)) (m2 := am_m_X10_of) (as := [az_r 34, az_i (((b : Nat) : Int)), az_i (6)]) (rest := []) 139 rfl rfl ⟨rfl, rfl⟩ (by omega) (zs_X10_of (s := am_up (am_up s 34 6 (0)) 34 6 (0)) (b := b) (k := 6) (by omega) hS (by omega) (by omega)) ?_
        refine az_to 0 (pc2 := 139) (lv2 := [some (az_r 34), some (az_i (((b : Nat) : Int))), some (az_i (zw))]) (st2 := [az_i (zB S b 6)]) (s2 := am_up (am_up s 34 6 (0)) 34 6 (0)) rfl ?_
        refine az_retI rfl rfl ?_
        have e : zq_bridgeOf S ((b : Nat) : Int) zw = (0, zB S b 6) := by
          simp only [zq_bridgeOf, Int.toNat_natCast]
          rw [if_neg (by omega), if_neg (by omega)]
          first | (obtain rfl : zw = 8 := (by omega); rfl) | rfl | (rw [az_b1 (by assumption)]; rfl) | (rw [az_b0 (by assumption)]; rfl) | (rw [← zch_5 hI (b := b) (by omega)]; rfl)
        rw [e]
        exact ⟨rfl, rfl, fun j hj => by simp [am_up, hj], fun i h1 h2 => by funext j; simp [am_up, h1]⟩
      · refine az_swc 92 rfl (by first | assumption | exact ⟨by omega, by omega⟩) (by omega) (off := 45) (by rw [h3]; rfl) (by decide) ?_
        subst h3
        refine az_to 0 (pc2 := 92) (lv2 := [some (az_r 34), some (az_i (((b : Nat) : Int))), some (az_i (0))]) (st2 := []) (s2 := am_up (am_up s 34 6 (0)) 34 6 (0)) (rfl) ?_
        refine az_to 3 (pc2 := 95) (lv2 := [some (az_r 34), some (az_i (((b : Nat) : Int))), some (az_i (0))]) (st2 := [az_i (0), az_i (((b : Nat) : Int)), az_r 34]) (s2 := am_up (am_up s 34 6 (0)) 34 6 (0)) rfl ?_
        refine az_clv (v := some (az_i (zB S b 0))) (t := am_up (am_up s 34 6 (0)) 34 6 (0)) (m2 := am_m_X10_of) (as := [az_r 34, az_i (((b : Nat) : Int)), az_i (0)]) (rest := []) 98 rfl rfl ⟨rfl, rfl⟩ (by omega) (zs_X10_of (s := am_up (am_up s 34 6 (0)) 34 6 (0)) (b := b) (k := 0) (by omega) hS (by omega) (by omega)) ?_
        refine az_to 0 (pc2 := 98) (lv2 := [some (az_r 34), some (az_i (((b : Nat) : Int))), some (az_i (0))]) (st2 := [az_i (zB S b 0)]) (s2 := am_up (am_up s 34 6 (0)) 34 6 (0)) rfl ?_
        refine az_retI rfl rfl ?_
        have e : zq_bridgeOf S ((b : Nat) : Int) 0 = (0, zB S b 0) := by
          simp only [zq_bridgeOf, Int.toNat_natCast]
          rw [if_neg (by omega), if_neg (by omega)]
          first | (obtain rfl : zw = 8 := (by omega); rfl) | rfl | (rw [az_b1 (by assumption)]; rfl) | (rw [az_b0 (by assumption)]; rfl) | (rw [← zch_5 hI (b := b) (by omega)]; rfl)
        rw [e]
        exact ⟨rfl, rfl, fun j hj => by simp [am_up, hj], fun i h1 h2 => by funext j; simp [am_up, h1]⟩
      · refine az_swc 92 rfl (by first | assumption | exact ⟨by omega, by omega⟩) (by omega) (off := 45) (by rw [h3]; rfl) (by decide) ?_
        subst h3
        refine az_to 0 (pc2 := 92) (lv2 := [some (az_r 34), some (az_i (((b : Nat) : Int))), some (az_i (1))]) (st2 := []) (s2 := am_up (am_up s 34 6 (0)) 34 6 (0)) (rfl) ?_
        refine az_to 3 (pc2 := 95) (lv2 := [some (az_r 34), some (az_i (((b : Nat) : Int))), some (az_i (1))]) (st2 := [az_i (1), az_i (((b : Nat) : Int)), az_r 34]) (s2 := am_up (am_up s 34 6 (0)) 34 6 (0)) rfl ?_
        refine az_clv (v := some (az_i (zB S b 1))) (t := am_up (am_up s 34 6 (0)) 34 6 (0)) (m2 := am_m_X10_of) (as := [az_r 34, az_i (((b : Nat) : Int)), az_i (1)]) (rest := []) 98 rfl rfl ⟨rfl, rfl⟩ (by omega) (zs_X10_of (s := am_up (am_up s 34 6 (0)) 34 6 (0)) (b := b) (k := 1) (by omega) hS (by omega) (by omega)) ?_
        refine az_to 0 (pc2 := 98) (lv2 := [some (az_r 34), some (az_i (((b : Nat) : Int))), some (az_i (1))]) (st2 := [az_i (zB S b 1)]) (s2 := am_up (am_up s 34 6 (0)) 34 6 (0)) rfl ?_
        refine az_retI rfl rfl ?_
        have e : zq_bridgeOf S ((b : Nat) : Int) 1 = (0, zB S b 1) := by
          simp only [zq_bridgeOf, Int.toNat_natCast]
          rw [if_neg (by omega), if_neg (by omega)]
          first | (obtain rfl : zw = 8 := (by omega); rfl) | rfl | (rw [az_b1 (by assumption)]; rfl) | (rw [az_b0 (by assumption)]; rfl) | (rw [← zch_5 hI (b := b) (by omega)]; rfl)
        rw [e]
        exact ⟨rfl, rfl, fun j hj => by simp [am_up, hj], fun i h1 h2 => by funext j; simp [am_up, h1]⟩
      · refine az_swc 92 rfl (by first | assumption | exact ⟨by omega, by omega⟩) (by omega) (off := 45) (by rw [h3]; rfl) (by decide) ?_
        subst h3
        refine az_to 0 (pc2 := 92) (lv2 := [some (az_r 34), some (az_i (((b : Nat) : Int))), some (az_i (2))]) (st2 := []) (s2 := am_up (am_up s 34 6 (0)) 34 6 (0)) (rfl) ?_
        refine az_to 3 (pc2 := 95) (lv2 := [some (az_r 34), some (az_i (((b : Nat) : Int))), some (az_i (2))]) (st2 := [az_i (2), az_i (((b : Nat) : Int)), az_r 34]) (s2 := am_up (am_up s 34 6 (0)) 34 6 (0)) rfl ?_
        refine az_clv (v := some (az_i (zB S b 2))) (t := am_up (am_up s 34 6 (0)) 34 6 (0)) (m2 := am_m_X10_of) (as := [az_r 34, az_i (((b : Nat) : Int)), az_i (2)]) (rest := []) 98 rfl rfl ⟨rfl, rfl⟩ (by omega) (zs_X10_of (s := am_up (am_up s 34 6 (0)) 34 6 (0)) (b := b) (k := 2) (by omega) hS (by omega) (by omega)) ?_
        refine az_to 0 (pc2 := 98) (lv2 := [some (az_r 34), some (az_i (((b : Nat) : Int))), some (az_i (2))]) (st2 := [az_i (zB S b 2)]) (s2 := am_up (am_up s 34 6 (0)) 34 6 (0)) rfl ?_
        refine az_retI rfl rfl ?_
        have e : zq_bridgeOf S ((b : Nat) : Int) 2 = (0, zB S b 2) := by
          simp only [zq_bridgeOf, Int.toNat_natCast]
          rw [if_neg (by omega), if_neg (by omega)]
          first | (obtain rfl : zw = 8 := (by omega); rfl) | rfl | (rw [az_b1 (by assumption)]; rfl) | (rw [az_b0 (by assumption)]; rfl) | (rw [← zch_5 hI (b := b) (by omega)]; rfl)
        rw [e]
        exact ⟨rfl, rfl, fun j hj => by simp [am_up, hj], fun i h1 h2 => by funext j; simp [am_up, h1]⟩
      · refine az_swc 92 rfl (by first | assumption | exact ⟨by omega, by omega⟩) (by omega) (off := 45) (by rw [h3]; rfl) (by decide) ?_
        subst h3
        refine az_to 0 (pc2 := 92) (lv2 := [some (az_r 34), some (az_i (((b : Nat) : Int))), some (az_i (3))]) (st2 := []) (s2 := am_up (am_up s 34 6 (0)) 34 6 (0)) (rfl) ?_
        refine az_to 3 (pc2 := 95) (lv2 := [some (az_r 34), some (az_i (((b : Nat) : Int))), some (az_i (3))]) (st2 := [az_i (3), az_i (((b : Nat) : Int)), az_r 34]) (s2 := am_up (am_up s 34 6 (0)) 34 6 (0)) rfl ?_
        refine az_clv (v := some (az_i (zB S b 3))) (t := am_up (am_up s 34 6 (0)) 34 6 (0)) (m2 := am_m_X10_of) (as := [az_r 34, az_i (((b : Nat) : Int)), az_i (3)]) (rest := []) 98 rfl rfl ⟨rfl, rfl⟩ (by omega) (zs_X10_of (s := am_up (am_up s 34 6 (0)) 34 6 (0)) (b := b) (k := 3) (by omega) hS (by omega) (by omega)) ?_
        refine az_to 0 (pc2 := 98) (lv2 := [some (az_r 34), some (az_i (((b : Nat) : Int))), some (az_i (3))]) (st2 := [az_i (zB S b 3)]) (s2 := am_up (am_up s 34 6 (0)) 34 6 (0)) rfl ?_
        refine az_retI rfl rfl ?_
        have e : zq_bridgeOf S ((b : Nat) : Int) 3 = (0, zB S b 3) := by
          simp only [zq_bridgeOf, Int.toNat_natCast]
          rw [if_neg (by omega), if_neg (by omega)]
          first | (obtain rfl : zw = 8 := (by omega); rfl) | rfl | (rw [az_b1 (by assumption)]; rfl) | (rw [az_b0 (by assumption)]; rfl) | (rw [← zch_5 hI (b := b) (by omega)]; rfl)
        rw [e]
        exact ⟨rfl, rfl, fun j hj => by simp [am_up, hj], fun i h1 h2 => by funext j; simp [am_up, h1]⟩
      · refine az_swc 99 rfl (by first | assumption | exact ⟨by omega, by omega⟩) (by omega) (off := 52) (by rw [h3]; rfl) (by decide) ?_
        subst h3
        refine az_to 0 (pc2 := 99) (lv2 := [some (az_r 34), some (az_i (((b : Nat) : Int))), some (az_i (4))]) (st2 := []) (s2 := am_up (am_up s 34 6 (0)) 34 6 (0)) (rfl) ?_
        refine az_to 2 (pc2 := 101) (lv2 := [some (az_r 34), some (az_i (((b : Nat) : Int))), some (az_i (4))]) (st2 := [az_i (((b : Nat) : Int)), az_r 34]) (s2 := am_up (am_up s 34 6 (0)) 34 6 (0)) rfl ?_
        refine az_clv (v := some (az_i (zat S b))) (t := am_up (am_up s 34 6 (0)) 34 6 (0)) (m2 := am_m_X10_trollAt) (as := [az_r 34, az_i (((b : Nat) : Int))]) (rest := []) 104 rfl rfl ⟨rfl, rfl⟩ (by omega) (zs_X10_trollAt (s := am_up (am_up s 34 6 (0)) 34 6 (0)) (b := b) (by omega) hS hI hh (by omega)) ?_
        refine az_to 0 (pc2 := 104) (lv2 := [some (az_r 34), some (az_i (((b : Nat) : Int))), some (az_i (4))]) (st2 := [az_i (zat S b)]) (s2 := am_up (am_up s 34 6 (0)) 34 6 (0)) rfl ?_
        refine az_retI rfl rfl ?_
        have e : zq_bridgeOf S ((b : Nat) : Int) 4 = (0, zat S b) := by
          simp only [zq_bridgeOf, Int.toNat_natCast]
          rw [if_neg (by omega), if_neg (by omega)]
          first | (obtain rfl : zw = 8 := (by omega); rfl) | rfl | (rw [az_b1 (by assumption)]; rfl) | (rw [az_b0 (by assumption)]; rfl) | (rw [← zch_5 hI (b := b) (by omega)]; rfl)
        rw [e]
        exact ⟨rfl, rfl, fun j hj => by simp [am_up, hj], fun i h1 h2 => by funext j; simp [am_up, h1]⟩
      · refine az_swc 105 rfl (by first | assumption | exact ⟨by omega, by omega⟩) (by omega) (off := 58) (by rw [h3]; rfl) (by decide) ?_
        subst h3
        refine az_to 0 (pc2 := 105) (lv2 := [some (az_r 34), some (az_i (((b : Nat) : Int))), some (az_i (5))]) (st2 := []) (s2 := am_up (am_up s 34 6 (0)) 34 6 (0)) (rfl) ?_
        refine az_to 2 (pc2 := 107) (lv2 := [some (az_r 34), some (az_i (((b : Nat) : Int))), some (az_i (5))]) (st2 := [az_i (((b : Nat) : Int)), az_r 34]) (s2 := am_up (am_up s 34 6 (0)) 34 6 (0)) rfl ?_
        refine az_clv (v := some (az_i (az_b (S 3 < zB S b 4)))) (t := am_up (am_up s 34 6 (0)) 34 6 (0)) (m2 := am_m_X10_isInFog) (as := [az_r 34, az_i (((b : Nat) : Int))]) (rest := []) 110 rfl rfl ⟨rfl, rfl⟩ (by omega) (zs_X10_isInFog (s := am_up (am_up s 34 6 (0)) 34 6 (0)) (b := b) (by omega) hS hI hh (by omega)) ?_
        refine az_to 0 (pc2 := 110) (lv2 := [some (az_r 34), some (az_i (((b : Nat) : Int))), some (az_i (5))]) (st2 := [az_i (az_b (S 3 < zB S b 4))]) (s2 := am_up (am_up s 34 6 (0)) 34 6 (0)) rfl ?_
        refine az_ifbe 117 113 rfl (by decide) (fun h4 => ?_) (fun h4 => ?_)
        · have h4 : ¬ (S 3 < zB S b 4) := h4
          refine az_to 1 (pc2 := 118) (lv2 := [some (az_r 34), some (az_i (((b : Nat) : Int))), some (az_i (5))]) (st2 := [az_i (0)]) (s2 := am_up (am_up s 34 6 (0)) 34 6 (0)) rfl ?_
          refine az_retI rfl rfl ?_
          have e : zq_bridgeOf S ((b : Nat) : Int) 5 = (0, 0) := by
            simp only [zq_bridgeOf, Int.toNat_natCast]
            rw [if_neg (by omega), if_neg (by omega)]
            first | (obtain rfl : zw = 8 := (by omega); rfl) | rfl | (rw [az_b1 (by assumption)]; rfl) | (rw [az_b0 (by assumption)]; rfl) | (rw [← zch_5 hI (b := b) (by omega)]; rfl)
          rw [e]
          exact ⟨rfl, rfl, fun j hj => by simp [am_up, hj], fun i h1 h2 => by funext j; simp [am_up, h1]⟩
        · have h4 : S 3 < zB S b 4 := h4
          refine az_to 2 (pc2 := 118) (lv2 := [some (az_r 34), some (az_i (((b : Nat) : Int))), some (az_i (5))]) (st2 := [az_i (1)]) (s2 := am_up (am_up s 34 6 (0)) 34 6 (0)) rfl ?_
          refine az_retI rfl rfl ?_
          have e : zq_bridgeOf S ((b : Nat) : Int) 5 = (0, 1) := by
            simp only [zq_bridgeOf, Int.toNat_natCast]
            rw [if_neg (by omega), if_neg (by omega)]
            first | (obtain rfl : zw = 8 := (by omega); rfl) | rfl | (rw [az_b1 (by assumption)]; rfl) | (rw [az_b0 (by assumption)]; rfl) | (rw [← zch_5 hI (b := b) (by omega)]; rfl)
          rw [e]
          exact ⟨rfl, rfl, fun j hj => by simp [am_up, hj], fun i h1 h2 => by funext j; simp [am_up, h1]⟩
      · refine az_swc 119 rfl (by first | assumption | exact ⟨by omega, by omega⟩) (by omega) (off := 72) (by rw [h3]; rfl) (by decide) ?_
        subst h3
        refine az_to 0 (pc2 := 119) (lv2 := [some (az_r 34), some (az_i (((b : Nat) : Int))), some (az_i (6))]) (st2 := []) (s2 := am_up (am_up s 34 6 (0)) 34 6 (0)) (rfl) ?_
        refine az_to 3 (pc2 := 122) (lv2 := [some (az_r 34), some (az_i (((b : Nat) : Int))), some (az_i (6))]) (st2 := [az_i (5), az_i (((b : Nat) : Int)), az_r 34]) (s2 := am_up (am_up s 34 6 (0)) 34 6 (0)) rfl ?_
        refine az_clv (v := some (az_i (zB S b 5))) (t := am_up (am_up s 34 6 (0)) 34 6 (0)) (m2 := am_m_X10_of) (as := [az_r 34, az_i (((b : Nat) : Int)), az_i (5)]) (rest := []) 125 rfl rfl ⟨rfl, rfl⟩ (by omega) (zs_X10_of (s := am_up (am_up s 34 6 (0)) 34 6 (0)) (b := b) (k := 5) (by omega) hS (by omega) (by omega)) ?_
        refine az_to 0 (pc2 := 125) (lv2 := [some (az_r 34), some (az_i (((b : Nat) : Int))), some (az_i (6))]) (st2 := [az_i (zB S b 5)]) (s2 := am_up (am_up s 34 6 (0)) 34 6 (0)) rfl ?_
        refine az_retI rfl rfl ?_
        have e : zq_bridgeOf S ((b : Nat) : Int) 6 = (0, zB S b 5) := by
          simp only [zq_bridgeOf, Int.toNat_natCast]
          rw [if_neg (by omega), if_neg (by omega)]
          first | (obtain rfl : zw = 8 := (by omega); rfl) | rfl | (rw [az_b1 (by assumption)]; rfl) | (rw [az_b0 (by assumption)]; rfl) | (rw [← zch_5 hI (b := b) (by omega)]; rfl)
        rw [e]
        exact ⟨rfl, rfl, fun j hj => by simp [am_up, hj], fun i h1 h2 => by funext j; simp [am_up, h1]⟩
      · refine az_swc 126 rfl (by first | assumption | exact ⟨by omega, by omega⟩) (by omega) (off := 79) (by rw [h3]; rfl) (by decide) ?_
        subst h3
        refine az_to 0 (pc2 := 126) (lv2 := [some (az_r 34), some (az_i (((b : Nat) : Int))), some (az_i (7))]) (st2 := []) (s2 := am_up (am_up s 34 6 (0)) 34 6 (0)) (rfl) ?_
        refine az_to 2 (pc2 := 128) (lv2 := [some (az_r 34), some (az_i (((b : Nat) : Int))), some (az_i (7))]) (st2 := [az_i (((b : Nat) : Int)), az_r 34]) (s2 := am_up (am_up s 34 6 (0)) 34 6 (0)) rfl ?_
        refine az_clv (v := some (az_i (zs5 S b))) (t := am_up (am_up s 34 6 (0)) 34 6 (0)) (m2 := am_m_X10_chest) (as := [az_r 34, az_i (((b : Nat) : Int))]) (rest := []) 131 rfl rfl ⟨rfl, rfl⟩ (by omega) (zs_X10_chest (s := am_up (am_up s 34 6 (0)) 34 6 (0)) (b := b) (by omega) hS (by omega)) ?_
        refine az_to 0 (pc2 := 131) (lv2 := [some (az_r 34), some (az_i (((b : Nat) : Int))), some (az_i (7))]) (st2 := [az_i (zs5 S b)]) (s2 := am_up (am_up s 34 6 (0)) 34 6 (0)) rfl ?_
        refine az_retI rfl rfl ?_
        have e : zq_bridgeOf S ((b : Nat) : Int) 7 = (0, zs5 S b) := by
          simp only [zq_bridgeOf, Int.toNat_natCast]
          rw [if_neg (by omega), if_neg (by omega)]
          first | (obtain rfl : zw = 8 := (by omega); rfl) | rfl | (rw [az_b1 (by assumption)]; rfl) | (rw [az_b0 (by assumption)]; rfl) | (rw [← zch_5 hI (b := b) (by omega)]; rfl)
        rw [e]
        exact ⟨rfl, rfl, fun j hj => by simp [am_up, hj], fun i h1 h2 => by funext j; simp [am_up, h1]⟩
    · have h2 : ¬ (0 ≤ zw ∧ zw ≤ 8) := h2
      refine az_to 3 (pc2 := 38) (lv2 := [some (az_r 34), some (az_i (((b : Nat) : Int))), some (az_i (zw))]) (st2 := [az_i (2), az_i (1), az_r 34]) (s2 := am_up s 34 6 (0)) rfl ?_
      refine az_clv (v := some (az_i (1))) (t := am_up (am_up s 34 6 (0)) 34 6 (2)) (m2 := am_m_X10_isThrown) (as := [az_r 34, az_i (1), az_i (2)]) (rest := []) 41 rfl rfl ⟨rfl, rfl⟩ (by omega) (zs_X10_isThrown_t (s := am_up s 34 6 (0)) (v := 2) (by omega) ) ?_
      refine az_to 0 (pc2 := 41) (lv2 := [some (az_r 34), some (az_i (((b : Nat) : Int))), some (az_i (zw))]) (st2 := [az_i (1)]) (s2 := am_up (am_up s 34 6 (0)) 34 6 (2)) rfl ?_
      refine az_ifc 46 44 rfl (by decide) ⟨by decide, by decide⟩ (fun h => absurd h (by unfold az_cnd; decide)) (fun _ => ?_)
      refine az_to 1 (pc2 := 45) (lv2 := [some (az_r 34), some (az_i (((b : Nat) : Int))), some (az_i (zw))]) (st2 := [az_i (0)]) (s2 := am_up (am_up s 34 6 (0)) 34 6 (2)) rfl ?_
      refine az_retI rfl rfl ?_
      have e : zq_bridgeOf S ((b : Nat) : Int) zw = (2, 0) := by
        simp only [zq_bridgeOf, Int.toNat_natCast]
        first | (rw [if_pos (by omega)]) | (rw [if_neg (by omega), if_pos (by omega)]) | (rw [if_neg (by omega), if_neg (by omega), if_pos (by omega)]) | (rw [if_neg (by omega), if_neg (by omega), if_neg (by omega), if_pos (by omega)])
      rw [e]
      exact ⟨rfl, rfl, fun j hj => by simp [am_up, hj], fun i h1 h2 => by funext j; simp [am_up, h1]⟩
  · have h1 : ¬ (0 ≤ zb ∧ zb < ((zn S 0 : Nat) : Int)) := h1
    refine az_to 3 (pc2 := 15) (lv2 := [some (az_r 34), some (az_i (zb)), some (az_i (zw))]) (st2 := [az_i (1), az_i (1), az_r 34]) (s2 := s) rfl ?_
    refine az_clv (v := some (az_i (1))) (t := am_up s 34 6 (1)) (m2 := am_m_X10_isThrown) (as := [az_r 34, az_i (1), az_i (1)]) (rest := []) 18 rfl rfl ⟨rfl, rfl⟩ (by omega) (zs_X10_isThrown_t (s := s) (v := 1) (by omega) ) ?_
    refine az_to 0 (pc2 := 18) (lv2 := [some (az_r 34), some (az_i (zb)), some (az_i (zw))]) (st2 := [az_i (1)]) (s2 := am_up s 34 6 (1)) rfl ?_
    refine az_ifc 44 21 rfl (by decide) ⟨by decide, by decide⟩ (fun _ => ?_) (fun h => absurd (show az_cnd _ _ _ by unfold az_cnd; decide) h)
    refine az_to 1 (pc2 := 45) (lv2 := [some (az_r 34), some (az_i (zb)), some (az_i (zw))]) (st2 := [az_i (0)]) (s2 := am_up s 34 6 (1)) rfl ?_
    refine az_retI rfl rfl ?_
    have e : zq_bridgeOf S zb zw = (1, 0) := by
      simp only [zq_bridgeOf, Int.toNat_natCast]
      first | (rw [if_pos (by omega)]) | (rw [if_neg (by omega), if_pos (by omega)]) | (rw [if_neg (by omega), if_neg (by omega), if_pos (by omega)]) | (rw [if_neg (by omega), if_neg (by omega), if_neg (by omega), if_pos (by omega)])
    rw [e]
    exact ⟨rfl, rfl, fun j hj => by simp [am_up, hj], fun i h1 h2 => by funext j; simp [am_up, h1]⟩
set_option maxRecDepth 100000 in
set_option maxHeartbeats 800000 in
theorem zs_X10_trollOf {d : Nat} {s : az_S} (hd : 4 ≤ d) {S : zR} {h : Nat} (hS : s 35 = S) (hI : zInv S h) (hh : h ≤ 10000) {zt : Int} {zw : Int} (h_zt : az_in zt) (h_zw : az_in zw) : az_R d am_m_X10_trollOf 0 (az_ini (am_mL am_m_X10_trollOf) [az_r 34, az_i (zt), az_i (zw)]) [] (s) (zmq s (zq_trollOf S zt zw)) := by
  have hz := zI_h hI hh
  have hs0 : s 35 0 = ((zn S 0 : Nat) : Int) := by rw [hS, hz.2.1.1]
  have hs1 : s 35 1 = ((zn S 1 : Nat) : Int) := by rw [hS, hz.2.1.2.1]
  have hs2 : s 35 2 = ((zn S 2 : Nat) : Int) := by rw [hS, hz.2.1.2.2]
  have hs3 : s 35 3 = S 3 := by rw [hS]
  have hs5 : s 35 5 = S 5 := by rw [hS]
  refine az_to 0 (pc2 := 0) (lv2 := [some (az_r 34), some (az_i (zt)), some (az_i (zw))]) (st2 := []) (s2 := s) rfl ?_
  refine az_to 3 (pc2 := 3) (lv2 := [some (az_r 34), some (az_i (zt)), some (az_i (zw))]) (st2 := [az_i (zt), az_r 34, az_r 34]) (s2 := s) rfl ?_
  refine az_clv (v := some (az_i (az_b (0 ≤ zt ∧ zt < ((zn S 1 : Nat) : Int))))) (t := s) (m2 := am_m_X10_isTroll) (as := [az_r 34, az_i (zt)]) (rest := [az_r 34]) 6 rfl rfl ⟨rfl, rfl⟩ (by omega) (zs_X10_isTroll (s := s) (z := zt) (by omega) hS hI hh (by first | assumption | exact ⟨by omega, by omega⟩)) ?_
  refine az_to 0 (pc2 := 6) (lv2 := [some (az_r 34), some (az_i (zt)), some (az_i (zw))]) (st2 := [az_i (az_b (0 ≤ zt ∧ zt < ((zn S 1 : Nat) : Int))), az_r 34]) (s2 := s) rfl ?_
  refine az_ifbn 13 9 rfl (by decide) (fun h1 => ?_) (fun h1 => ?_)
  · have h1 : 0 ≤ zt ∧ zt < ((zn S 1 : Nat) : Int) := h1
    obtain ⟨t, rfl⟩ : ∃ n0 : Nat, zt = n0 := ⟨zt.toNat, by omega⟩
    have hzt := zI_t hI hh (t := t) (by omega)
    have hzu := hI.2.2.2.2.2.1 t (by omega)
    refine az_to 0 (pc2 := 13) (lv2 := [some (az_r 34), some (az_i (((t : Nat) : Int))), some (az_i (zw))]) (st2 := [az_r 34]) (s2 := s) (rfl) ?_
    refine az_to 2 (pc2 := 15) (lv2 := [some (az_r 34), some (az_i (((t : Nat) : Int))), some (az_i (zw))]) (st2 := [az_i (1), az_i (0), az_r 34]) (s2 := s) rfl ?_
    refine az_clv (v := some (az_i (0))) (t := am_up s 34 6 (0)) (m2 := am_m_X10_isThrown) (as := [az_r 34, az_i (0), az_i (1)]) (rest := []) 18 rfl rfl ⟨rfl, rfl⟩ (by omega) (zs_X10_isThrown_f (s := s) (v := 1) (by omega) ) ?_
    refine az_to 0 (pc2 := 18) (lv2 := [some (az_r 34), some (az_i (((t : Nat) : Int))), some (az_i (zw))]) (st2 := [az_i (0)]) (s2 := am_up s 34 6 (0)) rfl ?_
    refine az_ifc 43 21 rfl (by decide) ⟨by decide, by decide⟩ (fun h => absurd h (by unfold az_cnd; decide)) (fun _ => ?_)
    refine az_to 4 (pc2 := 25) (lv2 := [some (az_r 34), some (az_i (((t : Nat) : Int))), some (az_i (zw))]) (st2 := [az_i (3), az_i (0), az_i (zw), az_r 34]) (s2 := am_up s 34 6 (0)) rfl ?_
    refine az_clv (v := some (az_i (az_b (0 ≤ zw ∧ zw ≤ 3)))) (t := am_up s 34 6 (0)) (m2 := am_m_X10_isIn) (as := [az_i (zw), az_i (0), az_i (3)]) (rest := [az_r 34]) 28 rfl rfl ⟨rfl, rfl⟩ (by omega) (zs_X10_isIn (s := am_up s 34 6 (0)) (z := zw) (lo := 0) (hi := 3) (by omega) (by first | assumption | exact ⟨by omega, by omega⟩) ⟨by decide, by decide⟩ ⟨by decide, by decide⟩) ?_
    refine az_to 0 (pc2 := 28) (lv2 := [some (az_r 34), some (az_i (((t : Nat) : Int))), some (az_i (zw))]) (st2 := [az_i (az_b (0 ≤ zw ∧ zw ≤ 3)), az_r 34]) (s2 := am_up s 34 6 (0)) rfl ?_
    refine az_ifbn 35 31 rfl (by decide) (fun h2 => ?_) (fun h2 => ?_)
    · have h2 : 0 ≤ zw ∧ zw ≤ 3 := h2
      refine az_to 2 (pc2 := 37) (lv2 := [some (az_r 34), some (az_i (((t : Nat) : Int))), some (az_i (zw))]) (st2 := [az_i (2), az_i (0), az_r 34]) (s2 := am_up s 34 6 (0)) rfl ?_
      refine az_clv (v := some (az_i (0))) (t := am_up (am_up s 34 6 (0)) 34 6 (0)) (m2 := am_m_X10_isThrown) (as := [az_r 34, az_i (0), az_i (2)]) (rest := []) 40 rfl rfl ⟨rfl, rfl⟩ (by omega) (zs_X10_isThrown_f (s := am_up s 34 6 (0)) (v := 2) (by omega) ) ?_
      refine az_to 0 (pc2 := 40) (lv2 := [some (az_r 34), some (az_i (((t : Nat) : Int))), some (az_i (zw))]) (st2 := [az_i (0)]) (s2 := am_up (am_up s 34 6 (0)) 34 6 (0)) rfl ?_
      refine az_ifc 45 43 rfl (by decide) ⟨by decide, by decide⟩ (fun _ => ?_) (fun h => absurd (show az_cnd _ _ _ by unfold az_cnd; decide) h)
      refine az_to 2 (pc2 := 47) (lv2 := [some (az_r 34), some (az_i (((t : Nat) : Int))), some (az_i (zw))]) (st2 := [az_i (2), az_i (zw)]) (s2 := am_up (am_up s 34 6 (0)) 34 6 (0)) rfl ?_
      refine az_if2 57 50 rfl (by decide) (by first | assumption | exact ⟨by omega, by omega⟩) ⟨by decide, by decide⟩ (fun h3 => ?_) (fun h3 => ?_)
      · have h3 : 2 ≤ zw := h3
        refine az_to 2 (pc2 := 59) (lv2 := [some (az_r 34), some (az_i (((t : Nat) : Int))), some (az_i (zw))]) (st2 := [az_i (((t : Nat) : Int)), az_r 34]) (s2 := am_up (am_up s 34 6 (0)) 34 6 (0)) rfl ?_
        refine az_clv (v := some (az_i (az_b (S 3 < zT S t 3)))) (t := am_up (am_up s 34 6 (0)) 34 6 (0)) (m2 := am_m_X10_holds) (as := [az_r 34, az_i (((t : Nat) : Int))]) (rest := []) 62 rfl rfl ⟨rfl, rfl⟩ (by omega) (zs_X10_holds (s := am_up (am_up s 34 6 (0)) 34 6 (0)) (t := t) (by omega) hS hI hh (by omega)) ?_
        refine az_to 0 (pc2 := 62) (lv2 := [some (az_r 34), some (az_i (((t : Nat) : Int))), some (az_i (zw))]) (st2 := [az_i (az_b (S 3 < zT S t 3))]) (s2 := am_up (am_up s 34 6 (0)) 34 6 (0)) rfl ?_
        refine az_ifbn 69 65 rfl (by decide) (fun h4 => ?_) (fun h4 => ?_)
        · have h4 : S 3 < zT S t 3 := h4
          refine az_to 2 (pc2 := 71) (lv2 := [some (az_r 34), some (az_i (((t : Nat) : Int))), some (az_i (zw))]) (st2 := [az_i (2), az_i (zw)]) (s2 := am_up (am_up s 34 6 (0)) 34 6 (0)) rfl ?_
          refine az_if2 83 74 rfl (by decide) (by first | assumption | exact ⟨by omega, by omega⟩) ⟨by decide, by decide⟩ (fun h5 => ?_) (fun h5 => ?_)
          · have h5 : ¬ zw = 2 := h5
            refine az_to 3 (pc2 := 86) (lv2 := [some (az_r 34), some (az_i (((t : Nat) : Int))), some (az_i (zw))]) (st2 := [az_i (3), az_i (((t : Nat) : Int)), az_r 34]) (s2 := am_up (am_up s 34 6 (0)) 34 6 (0)) rfl ?_
            refine az_clv (v := some (az_i (zT S t 3))) (t := am_up (am_up s 34 6 (0)) 34 6 (0)) (m2 := am_m_X10_ofTroll) (as := [az_r 34, az_i (((t : Nat) : Int)), az_i (3)]) (rest := []) 89 rfl rfl ⟨rfl, rfl⟩ (by omega) (zs_X10_ofTroll (s := am_up (am_up s 34 6 (0)) 34 6 (0)) (t := t) (k := 3) (by omega) hS (by omega) (by omega)) ?_
            refine az_to 0 (pc2 := 89) (lv2 := [some (az_r 34), some (az_i (((t : Nat) : Int))), some (az_i (zw))]) (st2 := [az_i (zT S t 3)]) (s2 := am_up (am_up s 34 6 (0)) 34 6 (0)) rfl ?_
            refine az_to 3 (pc2 := 94) (lv2 := [some (az_r 34), some (az_i (((t : Nat) : Int))), some (az_i (zw))]) (st2 := [az_i (3), az_r 35, az_i (zT S t 3)]) (s2 := am_up (am_up s 34 6 (0)) 34 6 (0)) rfl ?_
            refine az_ld_i 95 rfl rfl (by constructor <;> omega) ⟨by decide, rfl⟩ ?_
            refine az_to 0 (pc2 := 95) (lv2 := [some (az_r 34), some (az_i (((t : Nat) : Int))), some (az_i (zw))]) (st2 := [az_i ((am_up (am_up s 34 6 (0)) 34 6 (0)) 35 3), az_i (zT S t 3)]) (s2 := am_up (am_up s 34 6 (0)) 34 6 (0)) rfl ?_
            refine az_to 0 (pc2 := 95) (lv2 := [some (az_r 34), some (az_i (((t : Nat) : Int))), some (az_i (zw))]) (st2 := [az_i (S 3), az_i (zT S t 3)]) (s2 := am_up (am_up s 34 6 (0)) 34 6 (0)) (by rw [show (am_up (am_up s 34 6 (0)) 34 6 (0)) 35 3 = S 3 from hs3]; rfl) ?_
            refine az_to 1 (pc2 := 96) (lv2 := [some (az_r 34), some (az_i (((t : Nat) : Int))), some (az_i (zw))]) (st2 := [az_i ((zT S t 3 - S 3))]) (s2 := am_up (am_up s 34 6 (0)) 34 6 (0)) rfl ?_
            refine az_retI rfl rfl ?_
            have e : zq_trollOf S ((t : Nat) : Int) zw = (0, (zT S t 3 - S 3)) := by
              simp only [zq_trollOf, Int.toNat_natCast]
              rw [if_neg (by omega), if_neg (by omega)]
              have hzd := zrh_d (S := S) (t := t)
              have hk4 : zw = 2 ∨ zw = 3 := by omega
              rcases hk4 with rfl | rfl <;> first | (exfalso; omega) | (unfold zdn; rw [if_pos (c := S 3 < _) (by assumption)]; rfl) | (unfold zdn; rw [if_neg (c := S 3 < _) (by assumption)]; rfl) | (rw [hzd.1 (by assumption)]; rfl) | (rw [hzd.2 (by assumption)]; rfl)
            rw [e]
            exact ⟨rfl, rfl, fun j hj => by simp [am_up, hj], fun i h1 h2 => by funext j; simp [am_up, h1]⟩
          · have h5 : zw = 2 := Decidable.not_not.mp h5
            refine az_to 3 (pc2 := 77) (lv2 := [some (az_r 34), some (az_i (((t : Nat) : Int))), some (az_i (zw))]) (st2 := [az_i (2), az_i (((t : Nat) : Int)), az_r 34]) (s2 := am_up (am_up s 34 6 (0)) 34 6 (0)) rfl ?_
            refine az_clv (v := some (az_i (zT S t 2))) (t := am_up (am_up s 34 6 (0)) 34 6 (0)) (m2 := am_m_X10_ofTroll) (as := [az_r 34, az_i (((t : Nat) : Int)), az_i (2)]) (rest := []) 80 rfl rfl ⟨rfl, rfl⟩ (by omega) (zs_X10_ofTroll (s := am_up (am_up s 34 6 (0)) 34 6 (0)) (t := t) (k := 2) (by omega) hS (by omega) (by omega)) ?_
            refine az_to 0 (pc2 := 80) (lv2 := [some (az_r 34), some (az_i (((t : Nat) : Int))), some (az_i (zw))]) (st2 := [az_i (zT S t 2)]) (s2 := am_up (am_up s 34 6 (0)) 34 6 (0)) rfl ?_
            refine az_to 1 (pc2 := 96) (lv2 := [some (az_r 34), some (az_i (((t : Nat) : Int))), some (az_i (zw))]) (st2 := [az_i (zT S t 2)]) (s2 := am_up (am_up s 34 6 (0)) 34 6 (0)) rfl ?_
            refine az_retI rfl rfl ?_
            have e : zq_trollOf S ((t : Nat) : Int) zw = (0, zT S t 2) := by
              simp only [zq_trollOf, Int.toNat_natCast]
              rw [if_neg (by omega), if_neg (by omega)]
              have hzd := zrh_d (S := S) (t := t)
              have hk4 : zw = 2 ∨ zw = 3 := by omega
              rcases hk4 with rfl | rfl <;> first | (exfalso; omega) | (unfold zdn; rw [if_pos (c := S 3 < _) (by assumption)]; rfl) | (unfold zdn; rw [if_neg (c := S 3 < _) (by assumption)]; rfl) | (rw [hzd.1 (by assumption)]; rfl) | (rw [hzd.2 (by assumption)]; rfl)
            rw [e]
            exact ⟨rfl, rfl, fun j hj => by simp [am_up, hj], fun i h1 h2 => by funext j; simp [am_up, h1]⟩
        · have h4 : ¬ (S 3 < zT S t 3) := h4
          refine az_to 2 (pc2 := 96) (lv2 := [some (az_r 34), some (az_i (((t : Nat) : Int))), some (az_i (zw))]) (st2 := [az_i (0)]) (s2 := am_up (am_up s 34 6 (0)) 34 6 (0)) rfl ?_
          refine az_retI rfl rfl ?_
          have e : zq_trollOf S ((t : Nat) : Int) zw = (0, 0) := by
            simp only [zq_trollOf, Int.toNat_natCast]
            rw [if_neg (by omega), if_neg (by omega)]
            have hzd := zrh_d (S := S) (t := t)
            have hk4 : zw = 2 ∨ zw = 3 := by omega
            rcases hk4 with rfl | rfl <;> first | (exfalso; omega) | (unfold zdn; rw [if_pos (c := S 3 < _) (by assumption)]; rfl) | (unfold zdn; rw [if_neg (c := S 3 < _) (by assumption)]; rfl) | (rw [hzd.1 (by assumption)]; rfl) | (rw [hzd.2 (by assumption)]; rfl)
          rw [e]
          exact ⟨rfl, rfl, fun j hj => by simp [am_up, hj], fun i h1 h2 => by funext j; simp [am_up, h1]⟩
      · have h3 : ¬ (2 ≤ zw) := h3
        obtain ⟨w, rfl⟩ : ∃ n0 : Nat, zw = n0 := ⟨zw.toNat, by omega⟩
        refine az_to 0 (pc2 := 50) (lv2 := [some (az_r 34), some (az_i (((t : Nat) : Int))), some (az_i (((w : Nat) : Int)))]) (st2 := []) (s2 := am_up (am_up s 34 6 (0)) 34 6 (0)) (rfl) ?_
        refine az_to 3 (pc2 := 53) (lv2 := [some (az_r 34), some (az_i (((t : Nat) : Int))), some (az_i (((w : Nat) : Int)))]) (st2 := [az_i (((w : Nat) : Int)), az_i (((t : Nat) : Int)), az_r 34]) (s2 := am_up (am_up s 34 6 (0)) 34 6 (0)) rfl ?_
        refine az_clv (v := some (az_i (zT S t w))) (t := am_up (am_up s 34 6 (0)) 34 6 (0)) (m2 := am_m_X10_ofTroll) (as := [az_r 34, az_i (((t : Nat) : Int)), az_i (((w : Nat) : Int))]) (rest := []) 56 rfl rfl ⟨rfl, rfl⟩ (by omega) (zs_X10_ofTroll (s := am_up (am_up s 34 6 (0)) 34 6 (0)) (t := t) (k := w) (by omega) hS (by omega) (by omega)) ?_
        refine az_to 0 (pc2 := 56) (lv2 := [some (az_r 34), some (az_i (((t : Nat) : Int))), some (az_i (((w : Nat) : Int)))]) (st2 := [az_i (zT S t w)]) (s2 := am_up (am_up s 34 6 (0)) 34 6 (0)) rfl ?_
        refine az_retI rfl rfl ?_
        have e : zq_trollOf S ((t : Nat) : Int) ((w : Nat) : Int) = (0, zT S t w) := by
          simp only [zq_trollOf, Int.toNat_natCast]
          rw [if_neg (by omega), if_neg (by omega)]
          have hzd := zrh_d (S := S) (t := t)
          have hk4 : w = 0 ∨ w = 1 := by omega
          rcases hk4 with rfl | rfl <;> rfl
        rw [e]
        exact ⟨rfl, rfl, fun j hj => by simp [am_up, hj], fun i h1 h2 => by funext j; simp [am_up, h1]⟩
    · have h2 : ¬ (0 ≤ zw ∧ zw ≤ 3) := h2
      refine az_to 3 (pc2 := 37) (lv2 := [some (az_r 34), some (az_i (((t : Nat) : Int))), some (az_i (zw))]) (st2 := [az_i (2), az_i (1), az_r 34]) (s2 := am_up s 34 6 (0)) rfl ?_
      refine az_clv (v := some (az_i (1))) (t := am_up (am_up s 34 6 (0)) 34 6 (2)) (m2 := am_m_X10_isThrown) (as := [az_r 34, az_i (1), az_i (2)]) (rest := []) 40 rfl rfl ⟨rfl, rfl⟩ (by omega) (zs_X10_isThrown_t (s := am_up s 34 6 (0)) (v := 2) (by omega) ) ?_
      refine az_to 0 (pc2 := 40) (lv2 := [some (az_r 34), some (az_i (((t : Nat) : Int))), some (az_i (zw))]) (st2 := [az_i (1)]) (s2 := am_up (am_up s 34 6 (0)) 34 6 (2)) rfl ?_
      refine az_ifc 45 43 rfl (by decide) ⟨by decide, by decide⟩ (fun h => absurd h (by unfold az_cnd; decide)) (fun _ => ?_)
      refine az_to 1 (pc2 := 44) (lv2 := [some (az_r 34), some (az_i (((t : Nat) : Int))), some (az_i (zw))]) (st2 := [az_i (0)]) (s2 := am_up (am_up s 34 6 (0)) 34 6 (2)) rfl ?_
      refine az_retI rfl rfl ?_
      have e : zq_trollOf S ((t : Nat) : Int) zw = (2, 0) := by
        simp only [zq_trollOf, Int.toNat_natCast]
        first | (rw [if_pos (by omega)]) | (rw [if_neg (by omega), if_pos (by omega)]) | (rw [if_neg (by omega), if_neg (by omega), if_pos (by omega)]) | (rw [if_neg (by omega), if_neg (by omega), if_neg (by omega), if_pos (by omega)])
      rw [e]
      exact ⟨rfl, rfl, fun j hj => by simp [am_up, hj], fun i h1 h2 => by funext j; simp [am_up, h1]⟩
  · have h1 : ¬ (0 ≤ zt ∧ zt < ((zn S 1 : Nat) : Int)) := h1
    refine az_to 3 (pc2 := 15) (lv2 := [some (az_r 34), some (az_i (zt)), some (az_i (zw))]) (st2 := [az_i (1), az_i (1), az_r 34]) (s2 := s) rfl ?_
    refine az_clv (v := some (az_i (1))) (t := am_up s 34 6 (1)) (m2 := am_m_X10_isThrown) (as := [az_r 34, az_i (1), az_i (1)]) (rest := []) 18 rfl rfl ⟨rfl, rfl⟩ (by omega) (zs_X10_isThrown_t (s := s) (v := 1) (by omega) ) ?_
    refine az_to 0 (pc2 := 18) (lv2 := [some (az_r 34), some (az_i (zt)), some (az_i (zw))]) (st2 := [az_i (1)]) (s2 := am_up s 34 6 (1)) rfl ?_
    refine az_ifc 43 21 rfl (by decide) ⟨by decide, by decide⟩ (fun _ => ?_) (fun h => absurd (show az_cnd _ _ _ by unfold az_cnd; decide) h)
    refine az_to 1 (pc2 := 44) (lv2 := [some (az_r 34), some (az_i (zt)), some (az_i (zw))]) (st2 := [az_i (0)]) (s2 := am_up s 34 6 (1)) rfl ?_
    refine az_retI rfl rfl ?_
    have e : zq_trollOf S zt zw = (1, 0) := by
      simp only [zq_trollOf, Int.toNat_natCast]
      first | (rw [if_pos (by omega)]) | (rw [if_neg (by omega), if_pos (by omega)]) | (rw [if_neg (by omega), if_neg (by omega), if_pos (by omega)]) | (rw [if_neg (by omega), if_neg (by omega), if_neg (by omega), if_pos (by omega)])
    rw [e]
    exact ⟨rfl, rfl, fun j hj => by simp [am_up, hj], fun i h1 h2 => by funext j; simp [am_up, h1]⟩
set_option maxRecDepth 100000 in
set_option maxHeartbeats 800000 in
theorem zs_X10_goatOf {d : Nat} {s : az_S} (hd : 4 ≤ d) {S : zR} {h : Nat} (hS : s 35 = S) (hI : zInv S h) (hh : h ≤ 10000) {zg : Int} {zw : Int} (h_zg : az_in zg) (h_zw : az_in zw) : az_R d am_m_X10_goatOf 0 (az_ini (am_mL am_m_X10_goatOf) [az_r 34, az_i (zg), az_i (zw)]) [] (s) (zmq s (zq_goatOf S zg zw)) := by
  have hz := zI_h hI hh
  have hs0 : s 35 0 = ((zn S 0 : Nat) : Int) := by rw [hS, hz.2.1.1]
  have hs1 : s 35 1 = ((zn S 1 : Nat) : Int) := by rw [hS, hz.2.1.2.1]
  have hs2 : s 35 2 = ((zn S 2 : Nat) : Int) := by rw [hS, hz.2.1.2.2]
  have hs3 : s 35 3 = S 3 := by rw [hS]
  have hs5 : s 35 5 = S 5 := by rw [hS]
  refine az_to 0 (pc2 := 0) (lv2 := [some (az_r 34), some (az_i (zg)), some (az_i (zw))]) (st2 := []) (s2 := s) rfl ?_
  refine az_to 3 (pc2 := 3) (lv2 := [some (az_r 34), some (az_i (zg)), some (az_i (zw))]) (st2 := [az_i (zg), az_r 34, az_r 34]) (s2 := s) rfl ?_
  refine az_clv (v := some (az_i (az_b (0 ≤ zg ∧ zg < ((zn S 2 : Nat) : Int))))) (t := s) (m2 := am_m_X10_isGoat) (as := [az_r 34, az_i (zg)]) (rest := [az_r 34]) 6 rfl rfl ⟨rfl, rfl⟩ (by omega) (zs_X10_isGoat (s := s) (z := zg) (by omega) hS hI hh (by first | assumption | exact ⟨by omega, by omega⟩)) ?_
  refine az_to 0 (pc2 := 6) (lv2 := [some (az_r 34), some (az_i (zg)), some (az_i (zw))]) (st2 := [az_i (az_b (0 ≤ zg ∧ zg < ((zn S 2 : Nat) : Int))), az_r 34]) (s2 := s) rfl ?_
  refine az_ifbn 13 9 rfl (by decide) (fun h1 => ?_) (fun h1 => ?_)
  · have h1 : 0 ≤ zg ∧ zg < ((zn S 2 : Nat) : Int) := h1
    obtain ⟨g, rfl⟩ : ∃ n0 : Nat, zg = n0 := ⟨zg.toNat, by omega⟩
    have hzg := zI_g hI hh (g := g) (by omega)
    refine az_to 0 (pc2 := 13) (lv2 := [some (az_r 34), some (az_i (((g : Nat) : Int))), some (az_i (zw))]) (st2 := [az_r 34]) (s2 := s) (rfl) ?_
    refine az_to 2 (pc2 := 15) (lv2 := [some (az_r 34), some (az_i (((g : Nat) : Int))), some (az_i (zw))]) (st2 := [az_i (1), az_i (0), az_r 34]) (s2 := s) rfl ?_
    refine az_clv (v := some (az_i (0))) (t := am_up s 34 6 (0)) (m2 := am_m_X10_isThrown) (as := [az_r 34, az_i (0), az_i (1)]) (rest := []) 18 rfl rfl ⟨rfl, rfl⟩ (by omega) (zs_X10_isThrown_f (s := s) (v := 1) (by omega) ) ?_
    refine az_to 0 (pc2 := 18) (lv2 := [some (az_r 34), some (az_i (((g : Nat) : Int))), some (az_i (zw))]) (st2 := [az_i (0)]) (s2 := am_up s 34 6 (0)) rfl ?_
    refine az_ifc 43 21 rfl (by decide) ⟨by decide, by decide⟩ (fun h => absurd h (by unfold az_cnd; decide)) (fun _ => ?_)
    refine az_to 4 (pc2 := 25) (lv2 := [some (az_r 34), some (az_i (((g : Nat) : Int))), some (az_i (zw))]) (st2 := [az_i (5), az_i (0), az_i (zw), az_r 34]) (s2 := am_up s 34 6 (0)) rfl ?_
    refine az_clv (v := some (az_i (az_b (0 ≤ zw ∧ zw ≤ 5)))) (t := am_up s 34 6 (0)) (m2 := am_m_X10_isIn) (as := [az_i (zw), az_i (0), az_i (5)]) (rest := [az_r 34]) 28 rfl rfl ⟨rfl, rfl⟩ (by omega) (zs_X10_isIn (s := am_up s 34 6 (0)) (z := zw) (lo := 0) (hi := 5) (by omega) (by first | assumption | exact ⟨by omega, by omega⟩) ⟨by decide, by decide⟩ ⟨by decide, by decide⟩) ?_
    refine az_to 0 (pc2 := 28) (lv2 := [some (az_r 34), some (az_i (((g : Nat) : Int))), some (az_i (zw))]) (st2 := [az_i (az_b (0 ≤ zw ∧ zw ≤ 5)), az_r 34]) (s2 := am_up s 34 6 (0)) rfl ?_
    refine az_ifbn 35 31 rfl (by decide) (fun h2 => ?_) (fun h2 => ?_)
    · have h2 : 0 ≤ zw ∧ zw ≤ 5 := h2
      refine az_to 2 (pc2 := 37) (lv2 := [some (az_r 34), some (az_i (((g : Nat) : Int))), some (az_i (zw))]) (st2 := [az_i (2), az_i (0), az_r 34]) (s2 := am_up s 34 6 (0)) rfl ?_
      refine az_clv (v := some (az_i (0))) (t := am_up (am_up s 34 6 (0)) 34 6 (0)) (m2 := am_m_X10_isThrown) (as := [az_r 34, az_i (0), az_i (2)]) (rest := []) 40 rfl rfl ⟨rfl, rfl⟩ (by omega) (zs_X10_isThrown_f (s := am_up s 34 6 (0)) (v := 2) (by omega) ) ?_
      refine az_to 0 (pc2 := 40) (lv2 := [some (az_r 34), some (az_i (((g : Nat) : Int))), some (az_i (zw))]) (st2 := [az_i (0)]) (s2 := am_up (am_up s 34 6 (0)) 34 6 (0)) rfl ?_
      refine az_ifc 45 43 rfl (by decide) ⟨by decide, by decide⟩ (fun _ => ?_) (fun h => absurd (show az_cnd _ _ _ by unfold az_cnd; decide) h)
      refine az_to 2 (pc2 := 47) (lv2 := [some (az_r 34), some (az_i (((g : Nat) : Int))), some (az_i (zw))]) (st2 := [az_i (5), az_i (zw)]) (s2 := am_up (am_up s 34 6 (0)) 34 6 (0)) rfl ?_
      refine az_if2 58 50 rfl (by decide) (by first | assumption | exact ⟨by omega, by omega⟩) ⟨by decide, by decide⟩ (fun h3 => ?_) (fun h3 => ?_)
      · have h3 : ¬ zw = 5 := h3
        obtain ⟨w, rfl⟩ : ∃ n0 : Nat, zw = n0 := ⟨zw.toNat, by omega⟩
        refine az_to 0 (pc2 := 58) (lv2 := [some (az_r 34), some (az_i (((g : Nat) : Int))), some (az_i (((w : Nat) : Int)))]) (st2 := []) (s2 := am_up (am_up s 34 6 (0)) 34 6 (0)) (rfl) ?_
        refine az_to 3 (pc2 := 61) (lv2 := [some (az_r 34), some (az_i (((g : Nat) : Int))), some (az_i (((w : Nat) : Int)))]) (st2 := [az_i (((w : Nat) : Int)), az_i (((g : Nat) : Int)), az_r 34]) (s2 := am_up (am_up s 34 6 (0)) 34 6 (0)) rfl ?_
        refine az_clv (v := some (az_i (zG S g w))) (t := am_up (am_up s 34 6 (0)) 34 6 (0)) (m2 := am_m_X10_ofGoat) (as := [az_r 34, az_i (((g : Nat) : Int)), az_i (((w : Nat) : Int))]) (rest := []) 64 rfl rfl ⟨rfl, rfl⟩ (by omega) (zs_X10_ofGoat (s := am_up (am_up s 34 6 (0)) 34 6 (0)) (g := g) (k := w) (by omega) hS (by omega) (by omega)) ?_
        refine az_to 0 (pc2 := 64) (lv2 := [some (az_r 34), some (az_i (((g : Nat) : Int))), some (az_i (((w : Nat) : Int)))]) (st2 := [az_i (zG S g w)]) (s2 := am_up (am_up s 34 6 (0)) 34 6 (0)) rfl ?_
        refine az_retI rfl rfl ?_
        have e : zq_goatOf S ((g : Nat) : Int) ((w : Nat) : Int) = (0, zG S g w) := by
          simp only [zq_goatOf, Int.toNat_natCast]
          rw [if_neg (by omega), if_neg (by omega)]
          rw [if_neg (by omega)]
        rw [e]
        exact ⟨rfl, rfl, fun j hj => by simp [am_up, hj], fun i h1 h2 => by funext j; simp [am_up, h1]⟩
      · have h3 : zw = 5 := Decidable.not_not.mp h3
        subst h3
        refine az_to 0 (pc2 := 50) (lv2 := [some (az_r 34), some (az_i (((g : Nat) : Int))), some (az_i (5))]) (st2 := []) (s2 := am_up (am_up s 34 6 (0)) 34 6 (0)) (rfl) ?_
        refine az_to 2 (pc2 := 52) (lv2 := [some (az_r 34), some (az_i (((g : Nat) : Int))), some (az_i (5))]) (st2 := [az_i (((g : Nat) : Int)), az_r 34]) (s2 := am_up (am_up s 34 6 (0)) 34 6 (0)) rfl ?_
        refine az_clv (v := some (az_i (zcg S g))) (t := am_up (am_up s 34 6 (0)) 34 6 (0)) (m2 := am_m_X10_inChests) (as := [az_r 34, az_i (((g : Nat) : Int))]) (rest := []) 55 rfl rfl ⟨rfl, rfl⟩ (by omega) (zs_X10_inChests (s := am_up (am_up s 34 6 (0)) 34 6 (0)) (g := g) (by omega) hS hI hh (by omega)) ?_
        refine az_to 0 (pc2 := 55) (lv2 := [some (az_r 34), some (az_i (((g : Nat) : Int))), some (az_i (5))]) (st2 := [az_i (zcg S g)]) (s2 := am_up (am_up s 34 6 (0)) 34 6 (0)) rfl ?_
        refine az_to 1 (pc2 := 64) (lv2 := [some (az_r 34), some (az_i (((g : Nat) : Int))), some (az_i (5))]) (st2 := [az_i (zcg S g)]) (s2 := am_up (am_up s 34 6 (0)) 34 6 (0)) rfl ?_
        refine az_retI rfl rfl ?_
        have e : zq_goatOf S ((g : Nat) : Int) 5 = (0, zcg S g) := by
          simp only [zq_goatOf, Int.toNat_natCast]
          rw [if_neg (by omega), if_neg (by omega)]
          rfl
        rw [e]
        exact ⟨rfl, rfl, fun j hj => by simp [am_up, hj], fun i h1 h2 => by funext j; simp [am_up, h1]⟩
    · have h2 : ¬ (0 ≤ zw ∧ zw ≤ 5) := h2
      refine az_to 3 (pc2 := 37) (lv2 := [some (az_r 34), some (az_i (((g : Nat) : Int))), some (az_i (zw))]) (st2 := [az_i (2), az_i (1), az_r 34]) (s2 := am_up s 34 6 (0)) rfl ?_
      refine az_clv (v := some (az_i (1))) (t := am_up (am_up s 34 6 (0)) 34 6 (2)) (m2 := am_m_X10_isThrown) (as := [az_r 34, az_i (1), az_i (2)]) (rest := []) 40 rfl rfl ⟨rfl, rfl⟩ (by omega) (zs_X10_isThrown_t (s := am_up s 34 6 (0)) (v := 2) (by omega) ) ?_
      refine az_to 0 (pc2 := 40) (lv2 := [some (az_r 34), some (az_i (((g : Nat) : Int))), some (az_i (zw))]) (st2 := [az_i (1)]) (s2 := am_up (am_up s 34 6 (0)) 34 6 (2)) rfl ?_
      refine az_ifc 45 43 rfl (by decide) ⟨by decide, by decide⟩ (fun h => absurd h (by unfold az_cnd; decide)) (fun _ => ?_)
      refine az_to 1 (pc2 := 44) (lv2 := [some (az_r 34), some (az_i (((g : Nat) : Int))), some (az_i (zw))]) (st2 := [az_i (0)]) (s2 := am_up (am_up s 34 6 (0)) 34 6 (2)) rfl ?_
      refine az_retI rfl rfl ?_
      have e : zq_goatOf S ((g : Nat) : Int) zw = (2, 0) := by
        simp only [zq_goatOf, Int.toNat_natCast]
        first | (rw [if_pos (by omega)]) | (rw [if_neg (by omega), if_pos (by omega)]) | (rw [if_neg (by omega), if_neg (by omega), if_pos (by omega)]) | (rw [if_neg (by omega), if_neg (by omega), if_neg (by omega), if_pos (by omega)])
      rw [e]
      exact ⟨rfl, rfl, fun j hj => by simp [am_up, hj], fun i h1 h2 => by funext j; simp [am_up, h1]⟩
  · have h1 : ¬ (0 ≤ zg ∧ zg < ((zn S 2 : Nat) : Int)) := h1
    refine az_to 3 (pc2 := 15) (lv2 := [some (az_r 34), some (az_i (zg)), some (az_i (zw))]) (st2 := [az_i (1), az_i (1), az_r 34]) (s2 := s) rfl ?_
    refine az_clv (v := some (az_i (1))) (t := am_up s 34 6 (1)) (m2 := am_m_X10_isThrown) (as := [az_r 34, az_i (1), az_i (1)]) (rest := []) 18 rfl rfl ⟨rfl, rfl⟩ (by omega) (zs_X10_isThrown_t (s := s) (v := 1) (by omega) ) ?_
    refine az_to 0 (pc2 := 18) (lv2 := [some (az_r 34), some (az_i (zg)), some (az_i (zw))]) (st2 := [az_i (1)]) (s2 := am_up s 34 6 (1)) rfl ?_
    refine az_ifc 43 21 rfl (by decide) ⟨by decide, by decide⟩ (fun _ => ?_) (fun h => absurd (show az_cnd _ _ _ by unfold az_cnd; decide) h)
    refine az_to 1 (pc2 := 44) (lv2 := [some (az_r 34), some (az_i (zg)), some (az_i (zw))]) (st2 := [az_i (0)]) (s2 := am_up s 34 6 (1)) rfl ?_
    refine az_retI rfl rfl ?_
    have e : zq_goatOf S zg zw = (1, 0) := by
      simp only [zq_goatOf, Int.toNat_natCast]
      first | (rw [if_pos (by omega)]) | (rw [if_neg (by omega), if_pos (by omega)]) | (rw [if_neg (by omega), if_neg (by omega), if_pos (by omega)]) | (rw [if_neg (by omega), if_neg (by omega), if_neg (by omega), if_pos (by omega)])
    rw [e]
    exact ⟨rfl, rfl, fun j hj => by simp [am_up, hj], fun i h1 h2 => by funext j; simp [am_up, h1]⟩
set_option maxRecDepth 100000 in
set_option maxHeartbeats 800000 in
theorem zs_X10_due {d : Nat} {s : az_S} (hd : 5 ≤ d) {S : zR} {h : Nat} (hS : s 35 = S) (hI : zInv S h) (hh : h ≤ 10000) {zb : Int} (h_zb : az_in zb) : az_R d am_m_X10_due 0 (az_ini (am_mL am_m_X10_due) [az_r 34, az_i (zb)]) [] (s) (zmq s (zq_due S zb)) := by
  have hz := zI_h hI hh
  have hs0 : s 35 0 = ((zn S 0 : Nat) : Int) := by rw [hS, hz.2.1.1]
  have hs1 : s 35 1 = ((zn S 1 : Nat) : Int) := by rw [hS, hz.2.1.2.1]
  have hs2 : s 35 2 = ((zn S 2 : Nat) : Int) := by rw [hS, hz.2.1.2.2]
  have hs3 : s 35 3 = S 3 := by rw [hS]
  have hs5 : s 35 5 = S 5 := by rw [hS]
  refine az_to 0 (pc2 := 0) (lv2 := [some (az_r 34), some (az_i (zb))]) (st2 := []) (s2 := s) rfl ?_
  refine az_to 3 (pc2 := 3) (lv2 := [some (az_r 34), some (az_i (zb))]) (st2 := [az_i (zb), az_r 34, az_r 34]) (s2 := s) rfl ?_
  refine az_clv (v := some (az_i (az_b (0 ≤ zb ∧ zb < ((zn S 0 : Nat) : Int))))) (t := s) (m2 := am_m_X10_isBridge) (as := [az_r 34, az_i (zb)]) (rest := [az_r 34]) 6 rfl rfl ⟨rfl, rfl⟩ (by omega) (zs_X10_isBridge (s := s) (z := zb) (by omega) hS hI hh (by first | assumption | exact ⟨by omega, by omega⟩)) ?_
  refine az_to 0 (pc2 := 6) (lv2 := [some (az_r 34), some (az_i (zb))]) (st2 := [az_i (az_b (0 ≤ zb ∧ zb < ((zn S 0 : Nat) : Int))), az_r 34]) (s2 := s) rfl ?_
  refine az_ifbn 13 9 rfl (by decide) (fun h1 => ?_) (fun h1 => ?_)
  · have h1 : 0 ≤ zb ∧ zb < ((zn S 0 : Nat) : Int) := h1
    obtain ⟨b, rfl⟩ : ∃ n0 : Nat, zb = n0 := ⟨zb.toNat, by omega⟩
    have hzb := zI_b hI hh (b := b) (by omega)
    refine az_to 0 (pc2 := 13) (lv2 := [some (az_r 34), some (az_i (((b : Nat) : Int)))]) (st2 := [az_r 34]) (s2 := s) (rfl) ?_
    refine az_to 2 (pc2 := 15) (lv2 := [some (az_r 34), some (az_i (((b : Nat) : Int)))]) (st2 := [az_i (1), az_i (0), az_r 34]) (s2 := s) rfl ?_
    refine az_clv (v := some (az_i (0))) (t := am_up s 34 6 (0)) (m2 := am_m_X10_isThrown) (as := [az_r 34, az_i (0), az_i (1)]) (rest := []) 18 rfl rfl ⟨rfl, rfl⟩ (by omega) (zs_X10_isThrown_f (s := s) (v := 1) (by omega) ) ?_
    refine az_to 0 (pc2 := 18) (lv2 := [some (az_r 34), some (az_i (((b : Nat) : Int)))]) (st2 := [az_i (0)]) (s2 := am_up s 34 6 (0)) rfl ?_
    refine az_ifc 25 21 rfl (by decide) ⟨by decide, by decide⟩ (fun _ => ?_) (fun h => absurd (show az_cnd _ _ _ by unfold az_cnd; decide) h)
    refine az_to 2 (pc2 := 27) (lv2 := [some (az_r 34), some (az_i (((b : Nat) : Int)))]) (st2 := [az_i (((b : Nat) : Int)), az_r 34]) (s2 := am_up s 34 6 (0)) rfl ?_
    refine az_clv (v := some (az_i (zdue S b))) (t := am_up s 34 6 (0)) (m2 := am_m_X10_dueAt) (as := [az_r 34, az_i (((b : Nat) : Int))]) (rest := []) 30 rfl rfl ⟨rfl, rfl⟩ (by omega) (zs_X10_dueAt (s := am_up s 34 6 (0)) (b := b) (by omega) hS hI hh (by omega)) ?_
    refine az_to 0 (pc2 := 30) (lv2 := [some (az_r 34), some (az_i (((b : Nat) : Int)))]) (st2 := [az_i (zdue S b)]) (s2 := am_up s 34 6 (0)) rfl ?_
    refine az_retI rfl rfl ?_
    have e : zq_due S ((b : Nat) : Int) = (0, zdue S b) := by
      simp only [zq_due, Int.toNat_natCast]
      rw [if_neg (by omega)]
    rw [e]
    exact ⟨rfl, rfl, fun j hj => by simp [am_up, hj], fun i h1 h2 => by funext j; simp [am_up, h1]⟩
  · have h1 : ¬ (0 ≤ zb ∧ zb < ((zn S 0 : Nat) : Int)) := h1
    refine az_to 3 (pc2 := 15) (lv2 := [some (az_r 34), some (az_i (zb))]) (st2 := [az_i (1), az_i (1), az_r 34]) (s2 := s) rfl ?_
    refine az_clv (v := some (az_i (1))) (t := am_up s 34 6 (1)) (m2 := am_m_X10_isThrown) (as := [az_r 34, az_i (1), az_i (1)]) (rest := []) 18 rfl rfl ⟨rfl, rfl⟩ (by omega) (zs_X10_isThrown_t (s := s) (v := 1) (by omega) ) ?_
    refine az_to 0 (pc2 := 18) (lv2 := [some (az_r 34), some (az_i (zb))]) (st2 := [az_i (1)]) (s2 := am_up s 34 6 (1)) rfl ?_
    refine az_ifc 25 21 rfl (by decide) ⟨by decide, by decide⟩ (fun h => absurd h (by unfold az_cnd; decide)) (fun _ => ?_)
    refine az_to 2 (pc2 := 30) (lv2 := [some (az_r 34), some (az_i (zb))]) (st2 := [az_i (0)]) (s2 := am_up s 34 6 (1)) rfl ?_
    refine az_retI rfl rfl ?_
    have e : zq_due S zb = (1, 0) := by
      simp only [zq_due, Int.toNat_natCast]
      first | (rw [if_pos (by omega)]) | (rw [if_neg (by omega), if_pos (by omega)]) | (rw [if_neg (by omega), if_neg (by omega), if_pos (by omega)]) | (rw [if_neg (by omega), if_neg (by omega), if_neg (by omega), if_pos (by omega)])
    rw [e]
    exact ⟨rfl, rfl, fun j hj => by simp [am_up, hj], fun i h1 h2 => by funext j; simp [am_up, h1]⟩
set_option maxRecDepth 100000 in
set_option maxHeartbeats 800000 in
theorem zs_X10_takes {d : Nat} {s : az_S} (hd : 5 ≤ d) {S : zR} {h : Nat} (hS : s 35 = S) (hI : zInv S h) (hh : h ≤ 10000) {zb : Int} (h_zb : az_in zb) : az_R d am_m_X10_takes 0 (az_ini (am_mL am_m_X10_takes) [az_r 34, az_i (zb)]) [] (s) (zmq s (zq_takes S zb)) := by
  have hz := zI_h hI hh
  have hs0 : s 35 0 = ((zn S 0 : Nat) : Int) := by rw [hS, hz.2.1.1]
  have hs1 : s 35 1 = ((zn S 1 : Nat) : Int) := by rw [hS, hz.2.1.2.1]
  have hs2 : s 35 2 = ((zn S 2 : Nat) : Int) := by rw [hS, hz.2.1.2.2]
  have hs3 : s 35 3 = S 3 := by rw [hS]
  have hs5 : s 35 5 = S 5 := by rw [hS]
  refine az_to 0 (pc2 := 0) (lv2 := [some (az_r 34), some (az_i (zb))]) (st2 := []) (s2 := s) rfl ?_
  refine az_to 3 (pc2 := 3) (lv2 := [some (az_r 34), some (az_i (zb))]) (st2 := [az_i (zb), az_r 34, az_r 34]) (s2 := s) rfl ?_
  refine az_clv (v := some (az_i (az_b (0 ≤ zb ∧ zb < ((zn S 0 : Nat) : Int))))) (t := s) (m2 := am_m_X10_isBridge) (as := [az_r 34, az_i (zb)]) (rest := [az_r 34]) 6 rfl rfl ⟨rfl, rfl⟩ (by omega) (zs_X10_isBridge (s := s) (z := zb) (by omega) hS hI hh (by first | assumption | exact ⟨by omega, by omega⟩)) ?_
  refine az_to 0 (pc2 := 6) (lv2 := [some (az_r 34), some (az_i (zb))]) (st2 := [az_i (az_b (0 ≤ zb ∧ zb < ((zn S 0 : Nat) : Int))), az_r 34]) (s2 := s) rfl ?_
  refine az_ifbn 13 9 rfl (by decide) (fun h1 => ?_) (fun h1 => ?_)
  · have h1 : 0 ≤ zb ∧ zb < ((zn S 0 : Nat) : Int) := h1
    obtain ⟨b, rfl⟩ : ∃ n0 : Nat, zb = n0 := ⟨zb.toNat, by omega⟩
    have hzb := zI_b hI hh (b := b) (by omega)
    refine az_to 0 (pc2 := 13) (lv2 := [some (az_r 34), some (az_i (((b : Nat) : Int)))]) (st2 := [az_r 34]) (s2 := s) (rfl) ?_
    refine az_to 2 (pc2 := 15) (lv2 := [some (az_r 34), some (az_i (((b : Nat) : Int)))]) (st2 := [az_i (1), az_i (0), az_r 34]) (s2 := s) rfl ?_
    refine az_clv (v := some (az_i (0))) (t := am_up s 34 6 (0)) (m2 := am_m_X10_isThrown) (as := [az_r 34, az_i (0), az_i (1)]) (rest := []) 18 rfl rfl ⟨rfl, rfl⟩ (by omega) (zs_X10_isThrown_f (s := s) (v := 1) (by omega) ) ?_
    refine az_to 0 (pc2 := 18) (lv2 := [some (az_r 34), some (az_i (((b : Nat) : Int)))]) (st2 := [az_i (0)]) (s2 := am_up s 34 6 (0)) rfl ?_
    refine az_ifc 25 21 rfl (by decide) ⟨by decide, by decide⟩ (fun _ => ?_) (fun h => absurd (show az_cnd _ _ _ by unfold az_cnd; decide) h)
    refine az_to 2 (pc2 := 27) (lv2 := [some (az_r 34), some (az_i (((b : Nat) : Int)))]) (st2 := [az_i (((b : Nat) : Int)), az_r 34]) (s2 := am_up s 34 6 (0)) rfl ?_
    refine az_clv (v := some (az_i (ztk S b))) (t := am_up s 34 6 (0)) (m2 := am_m_X10_takesAt) (as := [az_r 34, az_i (((b : Nat) : Int))]) (rest := []) 30 rfl rfl ⟨rfl, rfl⟩ (by omega) (zs_X10_takesAt (s := am_up s 34 6 (0)) (b := b) (by omega) hS hI hh (by omega)) ?_
    refine az_to 0 (pc2 := 30) (lv2 := [some (az_r 34), some (az_i (((b : Nat) : Int)))]) (st2 := [az_i (ztk S b)]) (s2 := am_up s 34 6 (0)) rfl ?_
    refine az_retI rfl rfl ?_
    have e : zq_takes S ((b : Nat) : Int) = (0, ztk S b) := by
      simp only [zq_takes, Int.toNat_natCast]
      rw [if_neg (by omega)]
    rw [e]
    exact ⟨rfl, rfl, fun j hj => by simp [am_up, hj], fun i h1 h2 => by funext j; simp [am_up, h1]⟩
  · have h1 : ¬ (0 ≤ zb ∧ zb < ((zn S 0 : Nat) : Int)) := h1
    refine az_to 3 (pc2 := 15) (lv2 := [some (az_r 34), some (az_i (zb))]) (st2 := [az_i (1), az_i (1), az_r 34]) (s2 := s) rfl ?_
    refine az_clv (v := some (az_i (1))) (t := am_up s 34 6 (1)) (m2 := am_m_X10_isThrown) (as := [az_r 34, az_i (1), az_i (1)]) (rest := []) 18 rfl rfl ⟨rfl, rfl⟩ (by omega) (zs_X10_isThrown_t (s := s) (v := 1) (by omega) ) ?_
    refine az_to 0 (pc2 := 18) (lv2 := [some (az_r 34), some (az_i (zb))]) (st2 := [az_i (1)]) (s2 := am_up s 34 6 (1)) rfl ?_
    refine az_ifc 25 21 rfl (by decide) ⟨by decide, by decide⟩ (fun h => absurd h (by unfold az_cnd; decide)) (fun _ => ?_)
    refine az_to 2 (pc2 := 30) (lv2 := [some (az_r 34), some (az_i (zb))]) (st2 := [az_i (0)]) (s2 := am_up s 34 6 (1)) rfl ?_
    refine az_retI rfl rfl ?_
    have e : zq_takes S zb = (1, 0) := by
      simp only [zq_takes, Int.toNat_natCast]
      first | (rw [if_pos (by omega)]) | (rw [if_neg (by omega), if_pos (by omega)]) | (rw [if_neg (by omega), if_neg (by omega), if_pos (by omega)]) | (rw [if_neg (by omega), if_neg (by omega), if_neg (by omega), if_pos (by omega)])
    rw [e]
    exact ⟨rfl, rfl, fun j hj => by simp [am_up, hj], fun i h1 h2 => by funext j; simp [am_up, h1]⟩
set_option maxRecDepth 100000 in
set_option maxHeartbeats 800000 in
theorem zs_X10_way_0 {d : Nat} {s : az_S} (hd : 6 ≤ d) {S : zR} {h : Nat} (hS : s 35 = S) (hI : zInv S h) (hh : h ≤ 10000) {zf0 : Int} {zv : Int} (h_zf0 : az_in zf0) (h_zv : az_in zv) (h0 : ∀ m f, f < 6 → ∃ E, zgd S m f 1000 E) : az_R d am_m_X10_way 0 (az_ini (am_mL am_m_X10_way) [az_r 34, az_i (zf0), az_i (zv), az_i (0)]) [] (s) (zmq s (zq_way S 0 zf0 zv)) := by
  have hz := zI_h hI hh
  have hs0 : s 35 0 = ((zn S 0 : Nat) : Int) := by rw [hS, hz.2.1.1]
  have hs1 : s 35 1 = ((zn S 1 : Nat) : Int) := by rw [hS, hz.2.1.2.1]
  have hs2 : s 35 2 = ((zn S 2 : Nat) : Int) := by rw [hS, hz.2.1.2.2]
  have hs3 : s 35 3 = S 3 := by rw [hS]
  have hs5 : s 35 5 = S 5 := by rw [hS]
  refine az_to 0 (pc2 := 0) (lv2 := [some (az_r 34), some (az_i (zf0)), some (az_i (zv)), some (az_i (0))]) (st2 := []) (s2 := s) rfl ?_
  refine az_to 2 (pc2 := 2) (lv2 := [some (az_r 34), some (az_i (zf0)), some (az_i (zv)), some (az_i (0))]) (st2 := [az_i (zf0), az_r 34]) (s2 := s) rfl ?_
  refine az_clv (v := some (az_i (az_b (0 ≤ zf0 ∧ zf0 ≤ 5)))) (t := s) (m2 := am_m_X10_isLand) (as := [az_i (zf0)]) (rest := [az_r 34]) 5 rfl rfl ⟨rfl, rfl⟩ (by omega) (zs_X10_isLand (s := s) (z := zf0) (by omega) (by first | assumption | exact ⟨by omega, by omega⟩)) ?_
  refine az_to 0 (pc2 := 5) (lv2 := [some (az_r 34), some (az_i (zf0)), some (az_i (zv)), some (az_i (0))]) (st2 := [az_i (az_b (0 ≤ zf0 ∧ zf0 ≤ 5)), az_r 34]) (s2 := s) rfl ?_
  refine az_ifbe 15 8 rfl (by decide) (fun h1 => ?_) (fun h1 => ?_)
  · have h1 : ¬ (0 ≤ zf0 ∧ zf0 ≤ 5) := h1
    refine az_to 3 (pc2 := 21) (lv2 := [some (az_r 34), some (az_i (zf0)), some (az_i (zv)), some (az_i (0))]) (st2 := [az_i (1), az_i (1), az_r 34]) (s2 := s) rfl ?_
    refine az_clv (v := some (az_i (1))) (t := am_up s 34 6 (1)) (m2 := am_m_X10_isThrown) (as := [az_r 34, az_i (1), az_i (1)]) (rest := []) 24 rfl rfl ⟨rfl, rfl⟩ (by omega) (zs_X10_isThrown_t (s := s) (v := 1) (by omega) ) ?_
    refine az_to 0 (pc2 := 24) (lv2 := [some (az_r 34), some (az_i (zf0)), some (az_i (zv)), some (az_i (0))]) (st2 := [az_i (1)]) (s2 := am_up s 34 6 (1)) rfl ?_
    refine az_ifc 29 27 rfl (by decide) ⟨by decide, by decide⟩ (fun h => absurd h (by unfold az_cnd; decide)) (fun _ => ?_)
    refine az_to 1 (pc2 := 28) (lv2 := [some (az_r 34), some (az_i (zf0)), some (az_i (zv)), some (az_i (0))]) (st2 := [az_i (0)]) (s2 := am_up s 34 6 (1)) rfl ?_
    refine az_retI rfl rfl ?_
    have e : zq_way S 0 zf0 zv = (1, 0) := by
      simp only [zq_way, Int.toNat_natCast]
      first | (rw [if_pos (by omega)]) | (rw [if_neg (by omega), if_pos (by omega)]) | (rw [if_neg (by omega), if_neg (by omega), if_pos (by omega)]) | (rw [if_neg (by omega), if_neg (by omega), if_neg (by omega), if_pos (by omega)])
    rw [e]
    exact ⟨rfl, rfl, fun j hj => by simp [am_up, hj], fun i h1 h2 => by funext j; simp [am_up, h1]⟩
  · have h1 : 0 ≤ zf0 ∧ zf0 ≤ 5 := h1
    obtain ⟨f, rfl⟩ : ∃ n0 : Nat, zf0 = n0 := ⟨zf0.toNat, by omega⟩
    refine az_to 0 (pc2 := 8) (lv2 := [some (az_r 34), some (az_i (((f : Nat) : Int))), some (az_i (zv)), some (az_i (0))]) (st2 := [az_r 34]) (s2 := s) (rfl) ?_
    refine az_to 1 (pc2 := 9) (lv2 := [some (az_r 34), some (az_i (((f : Nat) : Int))), some (az_i (zv)), some (az_i (0))]) (st2 := [az_i (zv), az_r 34]) (s2 := s) rfl ?_
    refine az_clv (v := some (az_i (az_b (0 ≤ zv ∧ zv ≤ 5)))) (t := s) (m2 := am_m_X10_isLand) (as := [az_i (zv)]) (rest := [az_r 34]) 12 rfl rfl ⟨rfl, rfl⟩ (by omega) (zs_X10_isLand (s := s) (z := zv) (by omega) (by first | assumption | exact ⟨by omega, by omega⟩)) ?_
    refine az_to 0 (pc2 := 12) (lv2 := [some (az_r 34), some (az_i (((f : Nat) : Int))), some (az_i (zv)), some (az_i (0))]) (st2 := [az_i (az_b (0 ≤ zv ∧ zv ≤ 5)), az_r 34]) (s2 := s) rfl ?_
    refine az_ifbn 19 15 rfl (by decide) (fun h2 => ?_) (fun h2 => ?_)
    · have h2 : 0 ≤ zv ∧ zv ≤ 5 := h2
      obtain ⟨v, rfl⟩ : ∃ n0 : Nat, zv = n0 := ⟨zv.toNat, by omega⟩
      refine az_to 0 (pc2 := 19) (lv2 := [some (az_r 34), some (az_i (((f : Nat) : Int))), some (az_i (((v : Nat) : Int))), some (az_i (0))]) (st2 := [az_r 34]) (s2 := s) (rfl) ?_
      refine az_to 2 (pc2 := 21) (lv2 := [some (az_r 34), some (az_i (((f : Nat) : Int))), some (az_i (((v : Nat) : Int))), some (az_i (0))]) (st2 := [az_i (1), az_i (0), az_r 34]) (s2 := s) rfl ?_
      refine az_clv (v := some (az_i (0))) (t := am_up s 34 6 (0)) (m2 := am_m_X10_isThrown) (as := [az_r 34, az_i (0), az_i (1)]) (rest := []) 24 rfl rfl ⟨rfl, rfl⟩ (by omega) (zs_X10_isThrown_f (s := s) (v := 1) (by omega) ) ?_
      refine az_to 0 (pc2 := 24) (lv2 := [some (az_r 34), some (az_i (((f : Nat) : Int))), some (az_i (((v : Nat) : Int))), some (az_i (0))]) (st2 := [az_i (0)]) (s2 := am_up s 34 6 (0)) rfl ?_
      refine az_ifc 29 27 rfl (by decide) ⟨by decide, by decide⟩ (fun _ => ?_) (fun h => absurd (show az_cnd _ _ _ by unfold az_cnd; decide) h)
      refine az_to 3 (pc2 := 32) (lv2 := [some (az_r 34), some (az_i (((f : Nat) : Int))), some (az_i (((v : Nat) : Int))), some (az_i (0))]) (st2 := [az_i (0), az_i (((f : Nat) : Int)), az_r 34]) (s2 := am_up s 34 6 (0)) rfl ?_
      refine az_cl (m2 := am_m_X10_goesFrom) (as := [az_r 34, az_i (((f : Nat) : Int)), az_i (0)]) (rest := []) 35 rfl rfl ⟨rfl, rfl⟩ (by omega) (zs_X10_goesFrom_0 (s := am_up s 34 6 (0)) (f := f) (by omega) hS hI hh (by omega)) (fun v3 t3 q3 => ?_) (fun E t3 q3 => by cases q3.1)
      obtain ⟨o3, ff3, gg3⟩ := q3
      cases o3
      refine az_to 0 (pc2 := 35) (lv2 := [some (az_r 34), some (az_i (((f : Nat) : Int))), some (az_i (((v : Nat) : Int))), some (az_i (0))]) (st2 := []) (s2 := t3) rfl ?_
      have hwr := zdi_r hI hh (by omega) (T := 9999) (by omega) ff3 (h0 0 f (by omega)) (v := v) (by omega)
      have hwd : zwy S 0 f v = if zdi S 0 f v = 1000 then -1 else zdi S 0 f v := rfl
      have hw2 : t3 39 v = 9999 → zwy S 0 f v = -1 := fun q => by rw [hwd, if_pos (by omega)]
      have hw3 : ¬ t3 39 v = 9999 → zwy S 0 f v = t3 39 v := fun q => by rw [hwd, if_neg (by omega)]; omega
      refine az_to 4 (pc2 := 41) (lv2 := [some (az_r 34), some (az_i (((f : Nat) : Int))), some (az_i (((v : Nat) : Int))), some (az_i (0))]) (st2 := [az_i (((v : Nat) : Int)), az_r 39, az_r 34]) (s2 := t3) rfl ?_
      refine az_ld_i 42 rfl rfl (by constructor <;> omega) ⟨by decide, rfl⟩ ?_
      refine az_to 0 (pc2 := 42) (lv2 := [some (az_r 34), some (az_i (((f : Nat) : Int))), some (az_i (((v : Nat) : Int))), some (az_i (0))]) (st2 := [az_i (t3 39 v), az_r 34]) (s2 := t3) rfl ?_
      refine az_to 1 (pc2 := 45) (lv2 := [some (az_r 34), some (az_i (((f : Nat) : Int))), some (az_i (((v : Nat) : Int))), some (az_i (0))]) (st2 := [az_i (9999), az_i (t3 39 v), az_r 34]) (s2 := t3) rfl ?_
      refine az_if2 52 48 rfl (by decide) (by first | assumption | exact ⟨by omega, by omega⟩) ⟨by decide, by decide⟩ (fun h4 => ?_) (fun h4 => ?_)
      · have h4 : ¬ t3 39 v = 9999 := h4
        refine az_to 2 (pc2 := 54) (lv2 := [some (az_r 34), some (az_i (((f : Nat) : Int))), some (az_i (((v : Nat) : Int))), some (az_i (0))]) (st2 := [az_i (2), az_i (0), az_r 34]) (s2 := t3) rfl ?_
        refine az_clv (v := some (az_i (0))) (t := am_up t3 34 6 (0)) (m2 := am_m_X10_isThrown) (as := [az_r 34, az_i (0), az_i (2)]) (rest := []) 57 rfl rfl ⟨rfl, rfl⟩ (by omega) (zs_X10_isThrown_f (s := t3) (v := 2) (by omega) ) ?_
        refine az_to 0 (pc2 := 57) (lv2 := [some (az_r 34), some (az_i (((f : Nat) : Int))), some (az_i (((v : Nat) : Int))), some (az_i (0))]) (st2 := [az_i (0)]) (s2 := am_up t3 34 6 (0)) rfl ?_
        refine az_ifc 64 60 rfl (by decide) ⟨by decide, by decide⟩ (fun _ => ?_) (fun h => absurd (show az_cnd _ _ _ by unfold az_cnd; decide) h)
        refine az_to 3 (pc2 := 69) (lv2 := [some (az_r 34), some (az_i (((f : Nat) : Int))), some (az_i (((v : Nat) : Int))), some (az_i (0))]) (st2 := [az_i (((v : Nat) : Int)), az_r 39]) (s2 := am_up t3 34 6 (0)) rfl ?_
        refine az_ld_i 70 rfl rfl (by constructor <;> omega) ⟨by decide, rfl⟩ ?_
        refine az_to 0 (pc2 := 70) (lv2 := [some (az_r 34), some (az_i (((f : Nat) : Int))), some (az_i (((v : Nat) : Int))), some (az_i (0))]) (st2 := [az_i ((am_up t3 34 6 (0)) 39 v)]) (s2 := am_up t3 34 6 (0)) rfl ?_
        refine az_retI rfl rfl ?_
        have e : zq_way S 0 ((f : Nat) : Int) ((v : Nat) : Int) = (0, t3 39 v) := by
          simp only [zq_way, Int.toNat_natCast]
          rw [if_neg (by omega), hw3 (by assumption), if_neg (by omega)]
        rw [e]
        exact ⟨rfl, rfl, fun j0 hj => by simp only [am_up, if_true, if_neg hj]; rw [gg3 34 (by decide)]; simp [am_up, hj], fun i h1 h2 => by have q8 := gg3 i h2; funext b; have q9 := congrFun q8 b; simp only [am_up, if_neg h1] at q9 ⊢; exact q9⟩
      · have h4 : t3 39 v = 9999 := Decidable.not_not.mp h4
        refine az_to 3 (pc2 := 54) (lv2 := [some (az_r 34), some (az_i (((f : Nat) : Int))), some (az_i (((v : Nat) : Int))), some (az_i (0))]) (st2 := [az_i (2), az_i (1), az_r 34]) (s2 := t3) rfl ?_
        refine az_clv (v := some (az_i (1))) (t := am_up t3 34 6 (2)) (m2 := am_m_X10_isThrown) (as := [az_r 34, az_i (1), az_i (2)]) (rest := []) 57 rfl rfl ⟨rfl, rfl⟩ (by omega) (zs_X10_isThrown_t (s := t3) (v := 2) (by omega) ) ?_
        refine az_to 0 (pc2 := 57) (lv2 := [some (az_r 34), some (az_i (((f : Nat) : Int))), some (az_i (((v : Nat) : Int))), some (az_i (0))]) (st2 := [az_i (1)]) (s2 := am_up t3 34 6 (2)) rfl ?_
        refine az_ifc 64 60 rfl (by decide) ⟨by decide, by decide⟩ (fun h => absurd h (by unfold az_cnd; decide)) (fun _ => ?_)
        refine az_to 2 (pc2 := 70) (lv2 := [some (az_r 34), some (az_i (((f : Nat) : Int))), some (az_i (((v : Nat) : Int))), some (az_i (0))]) (st2 := [az_i (0)]) (s2 := am_up t3 34 6 (2)) rfl ?_
        refine az_retI rfl rfl ?_
        have e : zq_way S 0 ((f : Nat) : Int) ((v : Nat) : Int) = (2, 0) := by
          simp only [zq_way, Int.toNat_natCast]
          rw [if_neg (by omega), if_pos (hw2 (by assumption))]
        rw [e]
        exact ⟨rfl, rfl, fun j0 hj => by simp only [am_up, if_true, if_neg hj]; rw [gg3 34 (by decide)]; simp [am_up, hj], fun i h1 h2 => by have q8 := gg3 i h2; funext b; have q9 := congrFun q8 b; simp only [am_up, if_neg h1] at q9 ⊢; exact q9⟩
    · have h2 : ¬ (0 ≤ zv ∧ zv ≤ 5) := h2
      refine az_to 3 (pc2 := 21) (lv2 := [some (az_r 34), some (az_i (((f : Nat) : Int))), some (az_i (zv)), some (az_i (0))]) (st2 := [az_i (1), az_i (1), az_r 34]) (s2 := s) rfl ?_
      refine az_clv (v := some (az_i (1))) (t := am_up s 34 6 (1)) (m2 := am_m_X10_isThrown) (as := [az_r 34, az_i (1), az_i (1)]) (rest := []) 24 rfl rfl ⟨rfl, rfl⟩ (by omega) (zs_X10_isThrown_t (s := s) (v := 1) (by omega) ) ?_
      refine az_to 0 (pc2 := 24) (lv2 := [some (az_r 34), some (az_i (((f : Nat) : Int))), some (az_i (zv)), some (az_i (0))]) (st2 := [az_i (1)]) (s2 := am_up s 34 6 (1)) rfl ?_
      refine az_ifc 29 27 rfl (by decide) ⟨by decide, by decide⟩ (fun h => absurd h (by unfold az_cnd; decide)) (fun _ => ?_)
      refine az_to 1 (pc2 := 28) (lv2 := [some (az_r 34), some (az_i (((f : Nat) : Int))), some (az_i (zv)), some (az_i (0))]) (st2 := [az_i (0)]) (s2 := am_up s 34 6 (1)) rfl ?_
      refine az_retI rfl rfl ?_
      have e : zq_way S 0 ((f : Nat) : Int) zv = (1, 0) := by
        simp only [zq_way, Int.toNat_natCast]
        first | (rw [if_pos (by omega)]) | (rw [if_neg (by omega), if_pos (by omega)]) | (rw [if_neg (by omega), if_neg (by omega), if_pos (by omega)]) | (rw [if_neg (by omega), if_neg (by omega), if_neg (by omega), if_pos (by omega)])
      rw [e]
      exact ⟨rfl, rfl, fun j hj => by simp [am_up, hj], fun i h1 h2 => by funext j; simp [am_up, h1]⟩
set_option maxRecDepth 100000 in
set_option maxHeartbeats 800000 in
theorem zs_X10_way_1 {d : Nat} {s : az_S} (hd : 6 ≤ d) {S : zR} {h : Nat} (hS : s 35 = S) (hI : zInv S h) (hh : h ≤ 10000) {zf0 : Int} {zv : Int} (h_zf0 : az_in zf0) (h_zv : az_in zv) (h0 : ∀ m f, f < 6 → ∃ E, zgd S m f 1000 E) : az_R d am_m_X10_way 0 (az_ini (am_mL am_m_X10_way) [az_r 34, az_i (zf0), az_i (zv), az_i (1)]) [] (s) (zmq s (zq_way S 1 zf0 zv)) := by
  have hz := zI_h hI hh
  have hs0 : s 35 0 = ((zn S 0 : Nat) : Int) := by rw [hS, hz.2.1.1]
  have hs1 : s 35 1 = ((zn S 1 : Nat) : Int) := by rw [hS, hz.2.1.2.1]
  have hs2 : s 35 2 = ((zn S 2 : Nat) : Int) := by rw [hS, hz.2.1.2.2]
  have hs3 : s 35 3 = S 3 := by rw [hS]
  have hs5 : s 35 5 = S 5 := by rw [hS]
  refine az_to 0 (pc2 := 0) (lv2 := [some (az_r 34), some (az_i (zf0)), some (az_i (zv)), some (az_i (1))]) (st2 := []) (s2 := s) rfl ?_
  refine az_to 2 (pc2 := 2) (lv2 := [some (az_r 34), some (az_i (zf0)), some (az_i (zv)), some (az_i (1))]) (st2 := [az_i (zf0), az_r 34]) (s2 := s) rfl ?_
  refine az_clv (v := some (az_i (az_b (0 ≤ zf0 ∧ zf0 ≤ 5)))) (t := s) (m2 := am_m_X10_isLand) (as := [az_i (zf0)]) (rest := [az_r 34]) 5 rfl rfl ⟨rfl, rfl⟩ (by omega) (zs_X10_isLand (s := s) (z := zf0) (by omega) (by first | assumption | exact ⟨by omega, by omega⟩)) ?_
  refine az_to 0 (pc2 := 5) (lv2 := [some (az_r 34), some (az_i (zf0)), some (az_i (zv)), some (az_i (1))]) (st2 := [az_i (az_b (0 ≤ zf0 ∧ zf0 ≤ 5)), az_r 34]) (s2 := s) rfl ?_
  refine az_ifbe 15 8 rfl (by decide) (fun h1 => ?_) (fun h1 => ?_)
  · have h1 : ¬ (0 ≤ zf0 ∧ zf0 ≤ 5) := h1
    refine az_to 3 (pc2 := 21) (lv2 := [some (az_r 34), some (az_i (zf0)), some (az_i (zv)), some (az_i (1))]) (st2 := [az_i (1), az_i (1), az_r 34]) (s2 := s) rfl ?_
    refine az_clv (v := some (az_i (1))) (t := am_up s 34 6 (1)) (m2 := am_m_X10_isThrown) (as := [az_r 34, az_i (1), az_i (1)]) (rest := []) 24 rfl rfl ⟨rfl, rfl⟩ (by omega) (zs_X10_isThrown_t (s := s) (v := 1) (by omega) ) ?_
    refine az_to 0 (pc2 := 24) (lv2 := [some (az_r 34), some (az_i (zf0)), some (az_i (zv)), some (az_i (1))]) (st2 := [az_i (1)]) (s2 := am_up s 34 6 (1)) rfl ?_
    refine az_ifc 29 27 rfl (by decide) ⟨by decide, by decide⟩ (fun h => absurd h (by unfold az_cnd; decide)) (fun _ => ?_)
    refine az_to 1 (pc2 := 28) (lv2 := [some (az_r 34), some (az_i (zf0)), some (az_i (zv)), some (az_i (1))]) (st2 := [az_i (0)]) (s2 := am_up s 34 6 (1)) rfl ?_
    refine az_retI rfl rfl ?_
    have e : zq_way S 1 zf0 zv = (1, 0) := by
      simp only [zq_way, Int.toNat_natCast]
      first | (rw [if_pos (by omega)]) | (rw [if_neg (by omega), if_pos (by omega)]) | (rw [if_neg (by omega), if_neg (by omega), if_pos (by omega)]) | (rw [if_neg (by omega), if_neg (by omega), if_neg (by omega), if_pos (by omega)])
    rw [e]
    exact ⟨rfl, rfl, fun j hj => by simp [am_up, hj], fun i h1 h2 => by funext j; simp [am_up, h1]⟩
  · have h1 : 0 ≤ zf0 ∧ zf0 ≤ 5 := h1
    obtain ⟨f, rfl⟩ : ∃ n0 : Nat, zf0 = n0 := ⟨zf0.toNat, by omega⟩
    refine az_to 0 (pc2 := 8) (lv2 := [some (az_r 34), some (az_i (((f : Nat) : Int))), some (az_i (zv)), some (az_i (1))]) (st2 := [az_r 34]) (s2 := s) (rfl) ?_
    refine az_to 1 (pc2 := 9) (lv2 := [some (az_r 34), some (az_i (((f : Nat) : Int))), some (az_i (zv)), some (az_i (1))]) (st2 := [az_i (zv), az_r 34]) (s2 := s) rfl ?_
    refine az_clv (v := some (az_i (az_b (0 ≤ zv ∧ zv ≤ 5)))) (t := s) (m2 := am_m_X10_isLand) (as := [az_i (zv)]) (rest := [az_r 34]) 12 rfl rfl ⟨rfl, rfl⟩ (by omega) (zs_X10_isLand (s := s) (z := zv) (by omega) (by first | assumption | exact ⟨by omega, by omega⟩)) ?_
    refine az_to 0 (pc2 := 12) (lv2 := [some (az_r 34), some (az_i (((f : Nat) : Int))), some (az_i (zv)), some (az_i (1))]) (st2 := [az_i (az_b (0 ≤ zv ∧ zv ≤ 5)), az_r 34]) (s2 := s) rfl ?_
    refine az_ifbn 19 15 rfl (by decide) (fun h2 => ?_) (fun h2 => ?_)
    · have h2 : 0 ≤ zv ∧ zv ≤ 5 := h2
      obtain ⟨v, rfl⟩ : ∃ n0 : Nat, zv = n0 := ⟨zv.toNat, by omega⟩
      refine az_to 0 (pc2 := 19) (lv2 := [some (az_r 34), some (az_i (((f : Nat) : Int))), some (az_i (((v : Nat) : Int))), some (az_i (1))]) (st2 := [az_r 34]) (s2 := s) (rfl) ?_
      refine az_to 2 (pc2 := 21) (lv2 := [some (az_r 34), some (az_i (((f : Nat) : Int))), some (az_i (((v : Nat) : Int))), some (az_i (1))]) (st2 := [az_i (1), az_i (0), az_r 34]) (s2 := s) rfl ?_
      refine az_clv (v := some (az_i (0))) (t := am_up s 34 6 (0)) (m2 := am_m_X10_isThrown) (as := [az_r 34, az_i (0), az_i (1)]) (rest := []) 24 rfl rfl ⟨rfl, rfl⟩ (by omega) (zs_X10_isThrown_f (s := s) (v := 1) (by omega) ) ?_
      refine az_to 0 (pc2 := 24) (lv2 := [some (az_r 34), some (az_i (((f : Nat) : Int))), some (az_i (((v : Nat) : Int))), some (az_i (1))]) (st2 := [az_i (0)]) (s2 := am_up s 34 6 (0)) rfl ?_
      refine az_ifc 29 27 rfl (by decide) ⟨by decide, by decide⟩ (fun _ => ?_) (fun h => absurd (show az_cnd _ _ _ by unfold az_cnd; decide) h)
      refine az_to 3 (pc2 := 32) (lv2 := [some (az_r 34), some (az_i (((f : Nat) : Int))), some (az_i (((v : Nat) : Int))), some (az_i (1))]) (st2 := [az_i (1), az_i (((f : Nat) : Int)), az_r 34]) (s2 := am_up s 34 6 (0)) rfl ?_
      refine az_cl (m2 := am_m_X10_goesFrom) (as := [az_r 34, az_i (((f : Nat) : Int)), az_i (1)]) (rest := []) 35 rfl rfl ⟨rfl, rfl⟩ (by omega) (zs_X10_goesFrom_1 (s := am_up s 34 6 (0)) (f := f) (by omega) hS hI hh (by omega)) (fun v3 t3 q3 => ?_) (fun E t3 q3 => by cases q3.1)
      obtain ⟨o3, ff3, gg3⟩ := q3
      cases o3
      refine az_to 0 (pc2 := 35) (lv2 := [some (az_r 34), some (az_i (((f : Nat) : Int))), some (az_i (((v : Nat) : Int))), some (az_i (1))]) (st2 := []) (s2 := t3) rfl ?_
      have hwr := zdi_r hI hh (by omega) (T := 9999) (by omega) ff3 (h0 1 f (by omega)) (v := v) (by omega)
      have hwd : zwy S 1 f v = if zdi S 1 f v = 1000 then -1 else zdi S 1 f v := rfl
      have hw2 : t3 39 v = 9999 → zwy S 1 f v = -1 := fun q => by rw [hwd, if_pos (by omega)]
      have hw3 : ¬ t3 39 v = 9999 → zwy S 1 f v = t3 39 v := fun q => by rw [hwd, if_neg (by omega)]; omega
      refine az_to 4 (pc2 := 41) (lv2 := [some (az_r 34), some (az_i (((f : Nat) : Int))), some (az_i (((v : Nat) : Int))), some (az_i (1))]) (st2 := [az_i (((v : Nat) : Int)), az_r 39, az_r 34]) (s2 := t3) rfl ?_
      refine az_ld_i 42 rfl rfl (by constructor <;> omega) ⟨by decide, rfl⟩ ?_
      refine az_to 0 (pc2 := 42) (lv2 := [some (az_r 34), some (az_i (((f : Nat) : Int))), some (az_i (((v : Nat) : Int))), some (az_i (1))]) (st2 := [az_i (t3 39 v), az_r 34]) (s2 := t3) rfl ?_
      refine az_to 1 (pc2 := 45) (lv2 := [some (az_r 34), some (az_i (((f : Nat) : Int))), some (az_i (((v : Nat) : Int))), some (az_i (1))]) (st2 := [az_i (9999), az_i (t3 39 v), az_r 34]) (s2 := t3) rfl ?_
      refine az_if2 52 48 rfl (by decide) (by first | assumption | exact ⟨by omega, by omega⟩) ⟨by decide, by decide⟩ (fun h4 => ?_) (fun h4 => ?_)
      · have h4 : ¬ t3 39 v = 9999 := h4
        refine az_to 2 (pc2 := 54) (lv2 := [some (az_r 34), some (az_i (((f : Nat) : Int))), some (az_i (((v : Nat) : Int))), some (az_i (1))]) (st2 := [az_i (2), az_i (0), az_r 34]) (s2 := t3) rfl ?_
        refine az_clv (v := some (az_i (0))) (t := am_up t3 34 6 (0)) (m2 := am_m_X10_isThrown) (as := [az_r 34, az_i (0), az_i (2)]) (rest := []) 57 rfl rfl ⟨rfl, rfl⟩ (by omega) (zs_X10_isThrown_f (s := t3) (v := 2) (by omega) ) ?_
        refine az_to 0 (pc2 := 57) (lv2 := [some (az_r 34), some (az_i (((f : Nat) : Int))), some (az_i (((v : Nat) : Int))), some (az_i (1))]) (st2 := [az_i (0)]) (s2 := am_up t3 34 6 (0)) rfl ?_
        refine az_ifc 64 60 rfl (by decide) ⟨by decide, by decide⟩ (fun _ => ?_) (fun h => absurd (show az_cnd _ _ _ by unfold az_cnd; decide) h)
        refine az_to 3 (pc2 := 69) (lv2 := [some (az_r 34), some (az_i (((f : Nat) : Int))), some (az_i (((v : Nat) : Int))), some (az_i (1))]) (st2 := [az_i (((v : Nat) : Int)), az_r 39]) (s2 := am_up t3 34 6 (0)) rfl ?_
        refine az_ld_i 70 rfl rfl (by constructor <;> omega) ⟨by decide, rfl⟩ ?_
        refine az_to 0 (pc2 := 70) (lv2 := [some (az_r 34), some (az_i (((f : Nat) : Int))), some (az_i (((v : Nat) : Int))), some (az_i (1))]) (st2 := [az_i ((am_up t3 34 6 (0)) 39 v)]) (s2 := am_up t3 34 6 (0)) rfl ?_
        refine az_retI rfl rfl ?_
        have e : zq_way S 1 ((f : Nat) : Int) ((v : Nat) : Int) = (0, t3 39 v) := by
          simp only [zq_way, Int.toNat_natCast]
          rw [if_neg (by omega), hw3 (by assumption), if_neg (by omega)]
        rw [e]
        exact ⟨rfl, rfl, fun j0 hj => by simp only [am_up, if_true, if_neg hj]; rw [gg3 34 (by decide)]; simp [am_up, hj], fun i h1 h2 => by have q8 := gg3 i h2; funext b; have q9 := congrFun q8 b; simp only [am_up, if_neg h1] at q9 ⊢; exact q9⟩
      · have h4 : t3 39 v = 9999 := Decidable.not_not.mp h4
        refine az_to 3 (pc2 := 54) (lv2 := [some (az_r 34), some (az_i (((f : Nat) : Int))), some (az_i (((v : Nat) : Int))), some (az_i (1))]) (st2 := [az_i (2), az_i (1), az_r 34]) (s2 := t3) rfl ?_
        refine az_clv (v := some (az_i (1))) (t := am_up t3 34 6 (2)) (m2 := am_m_X10_isThrown) (as := [az_r 34, az_i (1), az_i (2)]) (rest := []) 57 rfl rfl ⟨rfl, rfl⟩ (by omega) (zs_X10_isThrown_t (s := t3) (v := 2) (by omega) ) ?_
        refine az_to 0 (pc2 := 57) (lv2 := [some (az_r 34), some (az_i (((f : Nat) : Int))), some (az_i (((v : Nat) : Int))), some (az_i (1))]) (st2 := [az_i (1)]) (s2 := am_up t3 34 6 (2)) rfl ?_
        refine az_ifc 64 60 rfl (by decide) ⟨by decide, by decide⟩ (fun h => absurd h (by unfold az_cnd; decide)) (fun _ => ?_)
        refine az_to 2 (pc2 := 70) (lv2 := [some (az_r 34), some (az_i (((f : Nat) : Int))), some (az_i (((v : Nat) : Int))), some (az_i (1))]) (st2 := [az_i (0)]) (s2 := am_up t3 34 6 (2)) rfl ?_
        refine az_retI rfl rfl ?_
        have e : zq_way S 1 ((f : Nat) : Int) ((v : Nat) : Int) = (2, 0) := by
          simp only [zq_way, Int.toNat_natCast]
          rw [if_neg (by omega), if_pos (hw2 (by assumption))]
        rw [e]
        exact ⟨rfl, rfl, fun j0 hj => by simp only [am_up, if_true, if_neg hj]; rw [gg3 34 (by decide)]; simp [am_up, hj], fun i h1 h2 => by have q8 := gg3 i h2; funext b; have q9 := congrFun q8 b; simp only [am_up, if_neg h1] at q9 ⊢; exact q9⟩
    · have h2 : ¬ (0 ≤ zv ∧ zv ≤ 5) := h2
      refine az_to 3 (pc2 := 21) (lv2 := [some (az_r 34), some (az_i (((f : Nat) : Int))), some (az_i (zv)), some (az_i (1))]) (st2 := [az_i (1), az_i (1), az_r 34]) (s2 := s) rfl ?_
      refine az_clv (v := some (az_i (1))) (t := am_up s 34 6 (1)) (m2 := am_m_X10_isThrown) (as := [az_r 34, az_i (1), az_i (1)]) (rest := []) 24 rfl rfl ⟨rfl, rfl⟩ (by omega) (zs_X10_isThrown_t (s := s) (v := 1) (by omega) ) ?_
      refine az_to 0 (pc2 := 24) (lv2 := [some (az_r 34), some (az_i (((f : Nat) : Int))), some (az_i (zv)), some (az_i (1))]) (st2 := [az_i (1)]) (s2 := am_up s 34 6 (1)) rfl ?_
      refine az_ifc 29 27 rfl (by decide) ⟨by decide, by decide⟩ (fun h => absurd h (by unfold az_cnd; decide)) (fun _ => ?_)
      refine az_to 1 (pc2 := 28) (lv2 := [some (az_r 34), some (az_i (((f : Nat) : Int))), some (az_i (zv)), some (az_i (1))]) (st2 := [az_i (0)]) (s2 := am_up s 34 6 (1)) rfl ?_
      refine az_retI rfl rfl ?_
      have e : zq_way S 1 ((f : Nat) : Int) zv = (1, 0) := by
        simp only [zq_way, Int.toNat_natCast]
        first | (rw [if_pos (by omega)]) | (rw [if_neg (by omega), if_pos (by omega)]) | (rw [if_neg (by omega), if_neg (by omega), if_pos (by omega)]) | (rw [if_neg (by omega), if_neg (by omega), if_neg (by omega), if_pos (by omega)])
      rw [e]
      exact ⟨rfl, rfl, fun j hj => by simp [am_up, hj], fun i h1 h2 => by funext j; simp [am_up, h1]⟩
set_option maxRecDepth 100000 in
set_option maxHeartbeats 800000 in
theorem zs_X10_cheapest {d : Nat} {s : az_S} (hd : 7 ≤ d) {S : zR} {h : Nat} (hS : s 35 = S) (hI : zInv S h) (hh : h ≤ 10000) {zf0 : Int} {zv : Int} (h_zf0 : az_in zf0) (h_zv : az_in zv) (h0 : ∀ m f, f < 6 → ∃ E, zgd S m f 1000 E) : az_R d am_m_X10_cheapest 0 (az_ini (am_mL am_m_X10_cheapest) [az_r 34, az_i (zf0), az_i (zv)]) [] (s) (zmq s (zq_way S 0 zf0 zv)) := by
  skip
  refine az_to 0 (pc2 := 0) (lv2 := [some (az_r 34), some (az_i (zf0)), some (az_i (zv))]) (st2 := []) (s2 := s) rfl ?_
  refine az_to 4 (pc2 := 4) (lv2 := [some (az_r 34), some (az_i (zf0)), some (az_i (zv))]) (st2 := [az_i (0), az_i (zv), az_i (zf0), az_r 34]) (s2 := s) rfl ?_
  refine az_cl (m2 := am_m_X10_way) (as := [az_r 34, az_i (zf0), az_i (zv), az_i (0)]) (rest := []) 7 rfl rfl ⟨rfl, rfl⟩ (by omega) (zs_X10_way_0 (s := s) (zf0 := zf0) (zv := zv) (by omega) hS hI hh (by first | assumption | exact ⟨by omega, by omega⟩) (by first | assumption | exact ⟨by omega, by omega⟩) h0) (fun v9 t9 q9 => ?_) (fun E9 t9 q9 => by cases q9.1)
  obtain ⟨o9, q9⟩ := q9
  cases o9
  refine az_to 0 (pc2 := 7) (lv2 := [some (az_r 34), some (az_i (zf0)), some (az_i (zv))]) (st2 := [az_i (if (zq_way S 0 zf0 zv).1 = 0 then (zq_way S 0 zf0 zv).2 else 0)]) (s2 := t9) rfl ?_
  refine az_retI rfl rfl ?_
  exact ⟨rfl, q9⟩
set_option maxRecDepth 100000 in
set_option maxHeartbeats 800000 in
theorem zs_X10_cheapestAgain {d : Nat} {s : az_S} (hd : 7 ≤ d) {S : zR} {h : Nat} (hS : s 35 = S) (hI : zInv S h) (hh : h ≤ 10000) {zf0 : Int} {zv : Int} (h_zf0 : az_in zf0) (h_zv : az_in zv) (h0 : ∀ m f, f < 6 → ∃ E, zgd S m f 1000 E) : az_R d am_m_X10_cheapestAgain 0 (az_ini (am_mL am_m_X10_cheapestAgain) [az_r 34, az_i (zf0), az_i (zv)]) [] (s) (zmq s (zq_way S 0 zf0 zv)) := by
  skip
  refine az_to 0 (pc2 := 0) (lv2 := [some (az_r 34), some (az_i (zf0)), some (az_i (zv))]) (st2 := []) (s2 := s) rfl ?_
  refine az_to 4 (pc2 := 4) (lv2 := [some (az_r 34), some (az_i (zf0)), some (az_i (zv))]) (st2 := [az_i (0), az_i (zv), az_i (zf0), az_r 34]) (s2 := s) rfl ?_
  refine az_cl (m2 := am_m_X10_way) (as := [az_r 34, az_i (zf0), az_i (zv), az_i (0)]) (rest := []) 7 rfl rfl ⟨rfl, rfl⟩ (by omega) (zs_X10_way_0 (s := s) (zf0 := zf0) (zv := zv) (by omega) hS hI hh (by first | assumption | exact ⟨by omega, by omega⟩) (by first | assumption | exact ⟨by omega, by omega⟩) h0) (fun v9 t9 q9 => ?_) (fun E9 t9 q9 => by cases q9.1)
  obtain ⟨o9, q9⟩ := q9
  cases o9
  refine az_to 0 (pc2 := 7) (lv2 := [some (az_r 34), some (az_i (zf0)), some (az_i (zv))]) (st2 := [az_i (if (zq_way S 0 zf0 zv).1 = 0 then (zq_way S 0 zf0 zv).2 else 0)]) (s2 := t9) rfl ?_
  refine az_retI rfl rfl ?_
  exact ⟨rfl, q9⟩
set_option maxRecDepth 100000 in
set_option maxHeartbeats 800000 in
theorem zs_X10_fastest {d : Nat} {s : az_S} (hd : 7 ≤ d) {S : zR} {h : Nat} (hS : s 35 = S) (hI : zInv S h) (hh : h ≤ 10000) {zf0 : Int} {zv : Int} (h_zf0 : az_in zf0) (h_zv : az_in zv) (h0 : ∀ m f, f < 6 → ∃ E, zgd S m f 1000 E) : az_R d am_m_X10_fastest 0 (az_ini (am_mL am_m_X10_fastest) [az_r 34, az_i (zf0), az_i (zv)]) [] (s) (zmq s (zq_way S 1 zf0 zv)) := by
  skip
  refine az_to 0 (pc2 := 0) (lv2 := [some (az_r 34), some (az_i (zf0)), some (az_i (zv))]) (st2 := []) (s2 := s) rfl ?_
  refine az_to 4 (pc2 := 4) (lv2 := [some (az_r 34), some (az_i (zf0)), some (az_i (zv))]) (st2 := [az_i (1), az_i (zv), az_i (zf0), az_r 34]) (s2 := s) rfl ?_
  refine az_cl (m2 := am_m_X10_way) (as := [az_r 34, az_i (zf0), az_i (zv), az_i (1)]) (rest := []) 7 rfl rfl ⟨rfl, rfl⟩ (by omega) (zs_X10_way_1 (s := s) (zf0 := zf0) (zv := zv) (by omega) hS hI hh (by first | assumption | exact ⟨by omega, by omega⟩) (by first | assumption | exact ⟨by omega, by omega⟩) h0) (fun v9 t9 q9 => ?_) (fun E9 t9 q9 => by cases q9.1)
  obtain ⟨o9, q9⟩ := q9
  cases o9
  refine az_to 0 (pc2 := 7) (lv2 := [some (az_r 34), some (az_i (zf0)), some (az_i (zv))]) (st2 := [az_i (if (zq_way S 1 zf0 zv).1 = 0 then (zq_way S 1 zf0 zv).2 else 0)]) (s2 := t9) rfl ?_
  refine az_retI rfl rfl ?_
  exact ⟨rfl, q9⟩
set_option maxRecDepth 100000 in
set_option maxHeartbeats 800000 in
theorem zs_X10_fastestAgain {d : Nat} {s : az_S} (hd : 7 ≤ d) {S : zR} {h : Nat} (hS : s 35 = S) (hI : zInv S h) (hh : h ≤ 10000) {zf0 : Int} {zv : Int} (h_zf0 : az_in zf0) (h_zv : az_in zv) (h0 : ∀ m f, f < 6 → ∃ E, zgd S m f 1000 E) : az_R d am_m_X10_fastestAgain 0 (az_ini (am_mL am_m_X10_fastestAgain) [az_r 34, az_i (zf0), az_i (zv)]) [] (s) (zmq s (zq_way S 1 zf0 zv)) := by
  skip
  refine az_to 0 (pc2 := 0) (lv2 := [some (az_r 34), some (az_i (zf0)), some (az_i (zv))]) (st2 := []) (s2 := s) rfl ?_
  refine az_to 4 (pc2 := 4) (lv2 := [some (az_r 34), some (az_i (zf0)), some (az_i (zv))]) (st2 := [az_i (1), az_i (zv), az_i (zf0), az_r 34]) (s2 := s) rfl ?_
  refine az_cl (m2 := am_m_X10_way) (as := [az_r 34, az_i (zf0), az_i (zv), az_i (1)]) (rest := []) 7 rfl rfl ⟨rfl, rfl⟩ (by omega) (zs_X10_way_1 (s := s) (zf0 := zf0) (zv := zv) (by omega) hS hI hh (by first | assumption | exact ⟨by omega, by omega⟩) (by first | assumption | exact ⟨by omega, by omega⟩) h0) (fun v9 t9 q9 => ?_) (fun E9 t9 q9 => by cases q9.1)
  obtain ⟨o9, q9⟩ := q9
  cases o9
  refine az_to 0 (pc2 := 7) (lv2 := [some (az_r 34), some (az_i (zf0)), some (az_i (zv))]) (st2 := [az_i (if (zq_way S 1 zf0 zv).1 = 0 then (zq_way S 1 zf0 zv).2 else 0)]) (s2 := t9) rfl ?_
  refine az_retI rfl rfl ?_
  exact ⟨rfl, q9⟩
set_option maxRecDepth 100000 in
set_option maxHeartbeats 800000 in
theorem zs_X10_hangsOn_L5 {d : Nat} {s : az_S} (hd : 3 ≤ d) {S : zR} {h : Nat} (hS : s 35 = S) (hI : zInv S h) (hh : h ≤ 10000) {f v : Nat} (hf : f < 6) (hv : v < 6) (hD : zgd S 1 f 9999 (s 39)) (h0 : ∃ E, zgd S 1 f 1000 E) (hr : s 39 v ≠ 9999) : ∀ (mq : Nat) (k : Nat) (x : Int) (x4 : Option az_V) (x5 : Option az_V), mq = zn S 0 - k → (k ≤ zn S 0) → (zh6 S (s 39) v k x) → az_R d am_m_X10_hangsOn 5 [some (az_r 34), some (az_i (((v : Nat) : Int))), some (az_i (x)), some (az_i (((k : Nat) : Int))), x4, x5] [] (s) (az_ret (some (az_i (zhg S f v))) (s)) := by
  intro mq
  induction mq using Nat.strongRecOn with
  | _ mq ih =>
    intro k x x4 x5 hm g0 g1
    have hz := zI_h hI hh
    have hs0 : s 35 0 = ((zn S 0 : Nat) : Int) := by rw [hS, hz.2.1.1]
    have hs1 : s 35 1 = ((zn S 1 : Nat) : Int) := by rw [hS, hz.2.1.2.1]
    have hs2 : s 35 2 = ((zn S 2 : Nat) : Int) := by rw [hS, hz.2.1.2.2]
    have hs3 : s 35 3 = S 3 := by rw [hS]
    have hs5 : s 35 5 = S 5 := by rw [hS]
    have hrv := hD.2.1 v hv
    have hxr : 0 ≤ x ∧ x ≤ 6 := by rcases g1 with q | ⟨u, j, q⟩ <;> omega
    refine az_to 4 (pc2 := 11) (lv2 := [some (az_r 34), some (az_i (((v : Nat) : Int))), some (az_i (x)), some (az_i (((k : Nat) : Int))), x4, x5]) (st2 := [az_i (0), az_r 35, az_i (((k : Nat) : Int))]) (s2 := s) rfl ?_
    refine az_ld_i 12 rfl rfl (by constructor <;> omega) ⟨by decide, rfl⟩ ?_
    refine az_to 0 (pc2 := 12) (lv2 := [some (az_r 34), some (az_i (((v : Nat) : Int))), some (az_i (x)), some (az_i (((k : Nat) : Int))), x4, x5]) (st2 := [az_i (s 35 0), az_i (((k : Nat) : Int))]) (s2 := s) rfl ?_
    refine az_to 0 (pc2 := 12) (lv2 := [some (az_r 34), some (az_i (((v : Nat) : Int))), some (az_i (x)), some (az_i (((k : Nat) : Int))), x4, x5]) (st2 := [az_i (s 35 0), az_i (((k : Nat) : Int))]) (s2 := s) rfl ?_
    refine az_to 0 (pc2 := 12) (lv2 := [some (az_r 34), some (az_i (((v : Nat) : Int))), some (az_i (x)), some (az_i (((k : Nat) : Int))), x4, x5]) (st2 := [az_i (((zn S 0 : Nat) : Int)), az_i (((k : Nat) : Int))]) (s2 := s) (by rw [show s 35 0 = ((zn S 0 : Nat) : Int) from hs0]; rfl) ?_
    refine az_if2 103 15 rfl (by decide) (by first | assumption | exact ⟨by omega, by omega⟩) (by first | assumption | exact ⟨by omega, by omega⟩) (fun h1 => ?_) (fun h1 => ?_)
    · have h1 : ((zn S 0 : Nat) : Int) ≤ ((k : Nat) : Int) := h1
      refine az_to 2 (pc2 := 106) (lv2 := [some (az_r 34), some (az_i (((v : Nat) : Int))), some (az_i (x)), some (az_i (((k : Nat) : Int))), x4, x5]) (st2 := [az_i (6), az_i (x)]) (s2 := s) rfl ?_
      refine az_if2 113 109 rfl (by decide) (by first | assumption | exact ⟨by omega, by omega⟩) ⟨by decide, by decide⟩ (fun h2 => ?_) (fun h2 => ?_)
      · have h2 : ¬ x = 6 := h2
        refine az_to 1 (pc2 := 114) (lv2 := [some (az_r 34), some (az_i (((v : Nat) : Int))), some (az_i (x)), some (az_i (((k : Nat) : Int))), x4, x5]) (st2 := [az_i (x)]) (s2 := s) rfl ?_
        refine az_retI rfl rfl ?_
        obtain rfl : k = zn S 0 := by omega
        have e := zhg_eq hI hh hf hD h0 hv hr g1
        exact ⟨by first | (rw [← e, if_pos (by assumption)]) | (rw [← e, if_neg (by assumption)]), rfl⟩
      · have h2 : x = 6 := Decidable.not_not.mp h2
        refine az_to 2 (pc2 := 114) (lv2 := [some (az_r 34), some (az_i (((v : Nat) : Int))), some (az_i (x)), some (az_i (((k : Nat) : Int))), x4, x5]) (st2 := [az_i (-1)]) (s2 := s) rfl ?_
        refine az_retI rfl rfl ?_
        obtain rfl : k = zn S 0 := by omega
        have e := zhg_eq hI hh hf hD h0 hv hr g1
        exact ⟨by first | (rw [← e, if_pos (by assumption)]) | (rw [← e, if_neg (by assumption)]), rfl⟩
    · have h1 : ¬ (((zn S 0 : Nat) : Int) ≤ ((k : Nat) : Int)) := h1
      have hzb := zI_b hI hh (b := k) (by omega)
      have hza := zac_of hI hh (k := k) (v := v) (by omega)
      have htk := ztk_r hI hh (b := k) (by omega)
      refine az_to 3 (pc2 := 18) (lv2 := [some (az_r 34), some (az_i (((v : Nat) : Int))), some (az_i (x)), some (az_i (((k : Nat) : Int))), x4, x5]) (st2 := [az_i (0), az_i (((k : Nat) : Int)), az_r 34]) (s2 := s) rfl ?_
      refine az_clv (v := some (az_i (zB S k 0))) (t := s) (m2 := am_m_X10_of) (as := [az_r 34, az_i (((k : Nat) : Int)), az_i (0)]) (rest := []) 21 rfl rfl ⟨rfl, rfl⟩ (by omega) (zs_X10_of (s := s) (b := k) (k := 0) (by omega) hS (by omega) (by omega)) ?_
      refine az_to 0 (pc2 := 21) (lv2 := [some (az_r 34), some (az_i (((v : Nat) : Int))), some (az_i (x)), some (az_i (((k : Nat) : Int))), x4, x5]) (st2 := [az_i (zB S k 0)]) (s2 := s) rfl ?_
      refine az_to 1 (pc2 := 22) (lv2 := [some (az_r 34), some (az_i (((v : Nat) : Int))), some (az_i (x)), some (az_i (((k : Nat) : Int))), x4, x5]) (st2 := [az_i (((v : Nat) : Int)), az_i (zB S k 0)]) (s2 := s) rfl ?_
      refine az_if2 35 25 rfl (by decide) (by first | assumption | exact ⟨by omega, by omega⟩) (by first | assumption | exact ⟨by omega, by omega⟩) (fun h3 => ?_) (fun h3 => ?_)
      · have h3 : zB S k 0 = ((v : Nat) : Int) := h3
        obtain ⟨w, hw⟩ : ∃ n0 : Nat, zB S k 0 + zB S k 1 - ((v : Nat) : Int) = n0 := ⟨(zB S k 0 + zB S k 1 - ((v : Nat) : Int)).toNat, by omega⟩
        have hw6 : w < 6 := by omega
        have hzw := hza.1 (by omega)
        rw [hw] at hzw
        have hrw := hD.2.1 w hw6
        refine az_to 6 (pc2 := 45) (lv2 := [some (az_r 34), some (az_i (((v : Nat) : Int))), some (az_i (x)), some (az_i (((k : Nat) : Int))), some (az_i (1)), x5]) (st2 := [az_i (0), az_i (((k : Nat) : Int)), az_r 34]) (s2 := s) rfl ?_
        refine az_clv (v := some (az_i (zB S k 0))) (t := s) (m2 := am_m_X10_of) (as := [az_r 34, az_i (((k : Nat) : Int)), az_i (0)]) (rest := []) 48 rfl rfl ⟨rfl, rfl⟩ (by omega) (zs_X10_of (s := s) (b := k) (k := 0) (by omega) hS (by omega) (by omega)) ?_
        refine az_to 0 (pc2 := 48) (lv2 := [some (az_r 34), some (az_i (((v : Nat) : Int))), some (az_i (x)), some (az_i (((k : Nat) : Int))), some (az_i (1)), x5]) (st2 := [az_i (zB S k 0)]) (s2 := s) rfl ?_
        refine az_to 3 (pc2 := 51) (lv2 := [some (az_r 34), some (az_i (((v : Nat) : Int))), some (az_i (x)), some (az_i (((k : Nat) : Int))), some (az_i (1)), x5]) (st2 := [az_i (1), az_i (((k : Nat) : Int)), az_r 34, az_i (zB S k 0)]) (s2 := s) rfl ?_
        refine az_clv (v := some (az_i (zB S k 1))) (t := s) (m2 := am_m_X10_of) (as := [az_r 34, az_i (((k : Nat) : Int)), az_i (1)]) (rest := [az_i (zB S k 0)]) 54 rfl rfl ⟨rfl, rfl⟩ (by omega) (zs_X10_of (s := s) (b := k) (k := 1) (by omega) hS (by omega) (by omega)) ?_
        refine az_to 0 (pc2 := 54) (lv2 := [some (az_r 34), some (az_i (((v : Nat) : Int))), some (az_i (x)), some (az_i (((k : Nat) : Int))), some (az_i (1)), x5]) (st2 := [az_i (zB S k 1), az_i (zB S k 0)]) (s2 := s) rfl ?_
        refine az_to 3 (pc2 := 57) (lv2 := [some (az_r 34), some (az_i (((v : Nat) : Int))), some (az_i (x)), some (az_i (((k : Nat) : Int))), some (az_i (1)), x5]) (st2 := [az_i (((zB S k 0 + zB S k 1) - ((v : Nat) : Int)))]) (s2 := s) rfl ?_
        refine az_to 0 (pc2 := 57) (lv2 := [some (az_r 34), some (az_i (((v : Nat) : Int))), some (az_i (x)), some (az_i (((k : Nat) : Int))), some (az_i (1)), x5]) (st2 := [az_i (((w : Nat) : Int))]) (s2 := s) (by rw [hw]; rfl) ?_
        refine az_to 2 (pc2 := 61) (lv2 := [some (az_r 34), some (az_i (((v : Nat) : Int))), some (az_i (x)), some (az_i (((k : Nat) : Int))), some (az_i (1)), some (az_i (((w : Nat) : Int)))]) (st2 := [az_i (1)]) (s2 := s) rfl ?_
        refine az_ifc 95 64 rfl (by decide) ⟨by decide, by decide⟩ (fun h => absurd h (by unfold az_cnd; decide)) (fun _ => ?_)
        refine az_to 3 (pc2 := 70) (lv2 := [some (az_r 34), some (az_i (((v : Nat) : Int))), some (az_i (x)), some (az_i (((k : Nat) : Int))), some (az_i (1)), some (az_i (((w : Nat) : Int)))]) (st2 := [az_i (((w : Nat) : Int)), az_r 39]) (s2 := s) rfl ?_
        refine az_ld_i 71 rfl rfl (by constructor <;> omega) ⟨by decide, rfl⟩ ?_
        refine az_to 0 (pc2 := 71) (lv2 := [some (az_r 34), some (az_i (((v : Nat) : Int))), some (az_i (x)), some (az_i (((k : Nat) : Int))), some (az_i (1)), some (az_i (((w : Nat) : Int)))]) (st2 := [az_i (s 39 w)]) (s2 := s) rfl ?_
        refine az_to 2 (pc2 := 73) (lv2 := [some (az_r 34), some (az_i (((v : Nat) : Int))), some (az_i (x)), some (az_i (((k : Nat) : Int))), some (az_i (1)), some (az_i (((w : Nat) : Int)))]) (st2 := [az_i (((k : Nat) : Int)), az_r 34, az_i (s 39 w)]) (s2 := s) rfl ?_
        refine az_clv (v := some (az_i (ztk S k))) (t := s) (m2 := am_m_X10_takesAt) (as := [az_r 34, az_i (((k : Nat) : Int))]) (rest := [az_i (s 39 w)]) 76 rfl rfl ⟨rfl, rfl⟩ (by omega) (zs_X10_takesAt (s := s) (b := k) (by omega) hS hI hh (by omega)) ?_
        refine az_to 0 (pc2 := 76) (lv2 := [some (az_r 34), some (az_i (((v : Nat) : Int))), some (az_i (x)), some (az_i (((k : Nat) : Int))), some (az_i (1)), some (az_i (((w : Nat) : Int)))]) (st2 := [az_i (ztk S k), az_i (s 39 w)]) (s2 := s) rfl ?_
        refine az_to 4 (pc2 := 82) (lv2 := [some (az_r 34), some (az_i (((v : Nat) : Int))), some (az_i (x)), some (az_i (((k : Nat) : Int))), some (az_i (1)), some (az_i (((w : Nat) : Int)))]) (st2 := [az_i (((v : Nat) : Int)), az_r 39, az_i ((s 39 w + ztk S k))]) (s2 := s) rfl ?_
        refine az_ld_i 83 rfl rfl (by constructor <;> omega) ⟨by decide, rfl⟩ ?_
        refine az_to 0 (pc2 := 83) (lv2 := [some (az_r 34), some (az_i (((v : Nat) : Int))), some (az_i (x)), some (az_i (((k : Nat) : Int))), some (az_i (1)), some (az_i (((w : Nat) : Int)))]) (st2 := [az_i (s 39 v), az_i ((s 39 w + ztk S k))]) (s2 := s) rfl ?_
        refine az_if2 95 86 rfl (by decide) (by first | assumption | exact ⟨by omega, by omega⟩) (by first | assumption | exact ⟨by omega, by omega⟩) (fun h4 => ?_) (fun h4 => ?_)
        · have h4 : ¬ (s 39 w + ztk S k) = s 39 v := h4
          refine az_to 4 (pc2 := 5) (lv2 := [some (az_r 34), some (az_i (((v : Nat) : Int))), some (az_i (x)), some (az_i ((((k : Nat) : Int) + 1))), some (az_i (1)), some (az_i (((w : Nat) : Int)))]) (st2 := []) (s2 := s) rfl ?_
          exact ih _ (by omega) (k + 1) _ _ _ rfl (by omega) (zh6_no g1 (fun u hu => by have q : u = w := (by omega); rw [q]; assumption))
        · have h4 : (s 39 w + ztk S k) = s 39 v := Decidable.not_not.mp h4
          refine az_to 2 (pc2 := 89) (lv2 := [some (az_r 34), some (az_i (((v : Nat) : Int))), some (az_i (x)), some (az_i (((k : Nat) : Int))), some (az_i (1)), some (az_i (((w : Nat) : Int)))]) (st2 := [az_i (((w : Nat) : Int)), az_i (x)]) (s2 := s) rfl ?_
          refine az_clv (v := some (az_i ((if x < (((w : Nat) : Int)) then x else (((w : Nat) : Int)))))) (t := s) (m2 := am_m_X10_lesser) (as := [az_i (x), az_i (((w : Nat) : Int))]) (rest := []) 92 rfl rfl ⟨rfl, rfl⟩ (by omega) (zs_X10_lesser (s := s) (x := x) (y := (((w : Nat) : Int))) (by omega) (by first | assumption | exact ⟨by omega, by omega⟩) (by first | assumption | exact ⟨by omega, by omega⟩)) ?_
          refine az_to 0 (pc2 := 92) (lv2 := [some (az_r 34), some (az_i (((v : Nat) : Int))), some (az_i (x)), some (az_i (((k : Nat) : Int))), some (az_i (1)), some (az_i (((w : Nat) : Int)))]) (st2 := [az_i ((if x < (((w : Nat) : Int)) then x else (((w : Nat) : Int))))]) (s2 := s) rfl ?_
          refine az_to 4 (pc2 := 5) (lv2 := [some (az_r 34), some (az_i (((v : Nat) : Int))), some (az_i ((if x < (((w : Nat) : Int)) then x else (((w : Nat) : Int))))), some (az_i ((((k : Nat) : Int) + 1))), some (az_i (1)), some (az_i (((w : Nat) : Int)))]) (st2 := []) (s2 := s) rfl ?_
          exact ih _ (by omega) (k + 1) _ _ _ rfl (by omega) (zh6_yes g1 hw6 hzw (by assumption))
      · have h3 : ¬ (zB S k 0 = ((v : Nat) : Int)) := h3
        refine az_to 3 (pc2 := 28) (lv2 := [some (az_r 34), some (az_i (((v : Nat) : Int))), some (az_i (x)), some (az_i (((k : Nat) : Int))), x4, x5]) (st2 := [az_i (1), az_i (((k : Nat) : Int)), az_r 34]) (s2 := s) rfl ?_
        refine az_clv (v := some (az_i (zB S k 1))) (t := s) (m2 := am_m_X10_of) (as := [az_r 34, az_i (((k : Nat) : Int)), az_i (1)]) (rest := []) 31 rfl rfl ⟨rfl, rfl⟩ (by omega) (zs_X10_of (s := s) (b := k) (k := 1) (by omega) hS (by omega) (by omega)) ?_
        refine az_to 0 (pc2 := 31) (lv2 := [some (az_r 34), some (az_i (((v : Nat) : Int))), some (az_i (x)), some (az_i (((k : Nat) : Int))), x4, x5]) (st2 := [az_i (zB S k 1)]) (s2 := s) rfl ?_
        refine az_to 1 (pc2 := 32) (lv2 := [some (az_r 34), some (az_i (((v : Nat) : Int))), some (az_i (x)), some (az_i (((k : Nat) : Int))), x4, x5]) (st2 := [az_i (((v : Nat) : Int)), az_i (zB S k 1)]) (s2 := s) rfl ?_
        refine az_if2 39 35 rfl (by decide) (by first | assumption | exact ⟨by omega, by omega⟩) (by first | assumption | exact ⟨by omega, by omega⟩) (fun h5 => ?_) (fun h5 => ?_)
        · have h5 : ¬ zB S k 1 = ((v : Nat) : Int) := h5
          refine az_to 5 (pc2 := 45) (lv2 := [some (az_r 34), some (az_i (((v : Nat) : Int))), some (az_i (x)), some (az_i (((k : Nat) : Int))), some (az_i (0)), x5]) (st2 := [az_i (0), az_i (((k : Nat) : Int)), az_r 34]) (s2 := s) rfl ?_
          refine az_clv (v := some (az_i (zB S k 0))) (t := s) (m2 := am_m_X10_of) (as := [az_r 34, az_i (((k : Nat) : Int)), az_i (0)]) (rest := []) 48 rfl rfl ⟨rfl, rfl⟩ (by omega) (zs_X10_of (s := s) (b := k) (k := 0) (by omega) hS (by omega) (by omega)) ?_
          refine az_to 0 (pc2 := 48) (lv2 := [some (az_r 34), some (az_i (((v : Nat) : Int))), some (az_i (x)), some (az_i (((k : Nat) : Int))), some (az_i (0)), x5]) (st2 := [az_i (zB S k 0)]) (s2 := s) rfl ?_
          refine az_to 3 (pc2 := 51) (lv2 := [some (az_r 34), some (az_i (((v : Nat) : Int))), some (az_i (x)), some (az_i (((k : Nat) : Int))), some (az_i (0)), x5]) (st2 := [az_i (1), az_i (((k : Nat) : Int)), az_r 34, az_i (zB S k 0)]) (s2 := s) rfl ?_
          refine az_clv (v := some (az_i (zB S k 1))) (t := s) (m2 := am_m_X10_of) (as := [az_r 34, az_i (((k : Nat) : Int)), az_i (1)]) (rest := [az_i (zB S k 0)]) 54 rfl rfl ⟨rfl, rfl⟩ (by omega) (zs_X10_of (s := s) (b := k) (k := 1) (by omega) hS (by omega) (by omega)) ?_
          refine az_to 0 (pc2 := 54) (lv2 := [some (az_r 34), some (az_i (((v : Nat) : Int))), some (az_i (x)), some (az_i (((k : Nat) : Int))), some (az_i (0)), x5]) (st2 := [az_i (zB S k 1), az_i (zB S k 0)]) (s2 := s) rfl ?_
          refine az_to 5 (pc2 := 61) (lv2 := [some (az_r 34), some (az_i (((v : Nat) : Int))), some (az_i (x)), some (az_i (((k : Nat) : Int))), some (az_i (0)), some (az_i (((zB S k 0 + zB S k 1) - ((v : Nat) : Int))))]) (st2 := [az_i (0)]) (s2 := s) rfl ?_
          refine az_ifc 95 64 rfl (by decide) ⟨by decide, by decide⟩ (fun _ => ?_) (fun h => absurd (show az_cnd _ _ _ by unfold az_cnd; decide) h)
          refine az_to 4 (pc2 := 5) (lv2 := [some (az_r 34), some (az_i (((v : Nat) : Int))), some (az_i (x)), some (az_i ((((k : Nat) : Int) + 1))), some (az_i (0)), some (az_i (((zB S k 0 + zB S k 1) - ((v : Nat) : Int))))]) (st2 := []) (s2 := s) rfl ?_
          exact ih _ (by omega) (k + 1) _ _ _ rfl (by omega) (zh6_no g1 (fun u hu => by have := hza.2 (by omega); omega))
        · have h5 : zB S k 1 = ((v : Nat) : Int) := Decidable.not_not.mp h5
          obtain ⟨w, hw⟩ : ∃ n0 : Nat, zB S k 0 + zB S k 1 - ((v : Nat) : Int) = n0 := ⟨(zB S k 0 + zB S k 1 - ((v : Nat) : Int)).toNat, by omega⟩
          have hw6 : w < 6 := by omega
          have hzw := hza.1 (by omega)
          rw [hw] at hzw
          have hrw := hD.2.1 w hw6
          refine az_to 6 (pc2 := 45) (lv2 := [some (az_r 34), some (az_i (((v : Nat) : Int))), some (az_i (x)), some (az_i (((k : Nat) : Int))), some (az_i (1)), x5]) (st2 := [az_i (0), az_i (((k : Nat) : Int)), az_r 34]) (s2 := s) rfl ?_
          refine az_clv (v := some (az_i (zB S k 0))) (t := s) (m2 := am_m_X10_of) (as := [az_r 34, az_i (((k : Nat) : Int)), az_i (0)]) (rest := []) 48 rfl rfl ⟨rfl, rfl⟩ (by omega) (zs_X10_of (s := s) (b := k) (k := 0) (by omega) hS (by omega) (by omega)) ?_
          refine az_to 0 (pc2 := 48) (lv2 := [some (az_r 34), some (az_i (((v : Nat) : Int))), some (az_i (x)), some (az_i (((k : Nat) : Int))), some (az_i (1)), x5]) (st2 := [az_i (zB S k 0)]) (s2 := s) rfl ?_
          refine az_to 3 (pc2 := 51) (lv2 := [some (az_r 34), some (az_i (((v : Nat) : Int))), some (az_i (x)), some (az_i (((k : Nat) : Int))), some (az_i (1)), x5]) (st2 := [az_i (1), az_i (((k : Nat) : Int)), az_r 34, az_i (zB S k 0)]) (s2 := s) rfl ?_
          refine az_clv (v := some (az_i (zB S k 1))) (t := s) (m2 := am_m_X10_of) (as := [az_r 34, az_i (((k : Nat) : Int)), az_i (1)]) (rest := [az_i (zB S k 0)]) 54 rfl rfl ⟨rfl, rfl⟩ (by omega) (zs_X10_of (s := s) (b := k) (k := 1) (by omega) hS (by omega) (by omega)) ?_
          refine az_to 0 (pc2 := 54) (lv2 := [some (az_r 34), some (az_i (((v : Nat) : Int))), some (az_i (x)), some (az_i (((k : Nat) : Int))), some (az_i (1)), x5]) (st2 := [az_i (zB S k 1), az_i (zB S k 0)]) (s2 := s) rfl ?_
          refine az_to 3 (pc2 := 57) (lv2 := [some (az_r 34), some (az_i (((v : Nat) : Int))), some (az_i (x)), some (az_i (((k : Nat) : Int))), some (az_i (1)), x5]) (st2 := [az_i (((zB S k 0 + zB S k 1) - ((v : Nat) : Int)))]) (s2 := s) rfl ?_
          refine az_to 0 (pc2 := 57) (lv2 := [some (az_r 34), some (az_i (((v : Nat) : Int))), some (az_i (x)), some (az_i (((k : Nat) : Int))), some (az_i (1)), x5]) (st2 := [az_i (((w : Nat) : Int))]) (s2 := s) (by rw [hw]; rfl) ?_
          refine az_to 2 (pc2 := 61) (lv2 := [some (az_r 34), some (az_i (((v : Nat) : Int))), some (az_i (x)), some (az_i (((k : Nat) : Int))), some (az_i (1)), some (az_i (((w : Nat) : Int)))]) (st2 := [az_i (1)]) (s2 := s) rfl ?_
          refine az_ifc 95 64 rfl (by decide) ⟨by decide, by decide⟩ (fun h => absurd h (by unfold az_cnd; decide)) (fun _ => ?_)
          refine az_to 3 (pc2 := 70) (lv2 := [some (az_r 34), some (az_i (((v : Nat) : Int))), some (az_i (x)), some (az_i (((k : Nat) : Int))), some (az_i (1)), some (az_i (((w : Nat) : Int)))]) (st2 := [az_i (((w : Nat) : Int)), az_r 39]) (s2 := s) rfl ?_
          refine az_ld_i 71 rfl rfl (by constructor <;> omega) ⟨by decide, rfl⟩ ?_
          refine az_to 0 (pc2 := 71) (lv2 := [some (az_r 34), some (az_i (((v : Nat) : Int))), some (az_i (x)), some (az_i (((k : Nat) : Int))), some (az_i (1)), some (az_i (((w : Nat) : Int)))]) (st2 := [az_i (s 39 w)]) (s2 := s) rfl ?_
          refine az_to 2 (pc2 := 73) (lv2 := [some (az_r 34), some (az_i (((v : Nat) : Int))), some (az_i (x)), some (az_i (((k : Nat) : Int))), some (az_i (1)), some (az_i (((w : Nat) : Int)))]) (st2 := [az_i (((k : Nat) : Int)), az_r 34, az_i (s 39 w)]) (s2 := s) rfl ?_
          refine az_clv (v := some (az_i (ztk S k))) (t := s) (m2 := am_m_X10_takesAt) (as := [az_r 34, az_i (((k : Nat) : Int))]) (rest := [az_i (s 39 w)]) 76 rfl rfl ⟨rfl, rfl⟩ (by omega) (zs_X10_takesAt (s := s) (b := k) (by omega) hS hI hh (by omega)) ?_
          refine az_to 0 (pc2 := 76) (lv2 := [some (az_r 34), some (az_i (((v : Nat) : Int))), some (az_i (x)), some (az_i (((k : Nat) : Int))), some (az_i (1)), some (az_i (((w : Nat) : Int)))]) (st2 := [az_i (ztk S k), az_i (s 39 w)]) (s2 := s) rfl ?_
          refine az_to 4 (pc2 := 82) (lv2 := [some (az_r 34), some (az_i (((v : Nat) : Int))), some (az_i (x)), some (az_i (((k : Nat) : Int))), some (az_i (1)), some (az_i (((w : Nat) : Int)))]) (st2 := [az_i (((v : Nat) : Int)), az_r 39, az_i ((s 39 w + ztk S k))]) (s2 := s) rfl ?_
          refine az_ld_i 83 rfl rfl (by constructor <;> omega) ⟨by decide, rfl⟩ ?_
          refine az_to 0 (pc2 := 83) (lv2 := [some (az_r 34), some (az_i (((v : Nat) : Int))), some (az_i (x)), some (az_i (((k : Nat) : Int))), some (az_i (1)), some (az_i (((w : Nat) : Int)))]) (st2 := [az_i (s 39 v), az_i ((s 39 w + ztk S k))]) (s2 := s) rfl ?_
          refine az_if2 95 86 rfl (by decide) (by first | assumption | exact ⟨by omega, by omega⟩) (by first | assumption | exact ⟨by omega, by omega⟩) (fun h6 => ?_) (fun h6 => ?_)
          · have h6 : ¬ (s 39 w + ztk S k) = s 39 v := h6
            refine az_to 4 (pc2 := 5) (lv2 := [some (az_r 34), some (az_i (((v : Nat) : Int))), some (az_i (x)), some (az_i ((((k : Nat) : Int) + 1))), some (az_i (1)), some (az_i (((w : Nat) : Int)))]) (st2 := []) (s2 := s) rfl ?_
            exact ih _ (by omega) (k + 1) _ _ _ rfl (by omega) (zh6_no g1 (fun u hu => by have q : u = w := (by omega); rw [q]; assumption))
          · have h6 : (s 39 w + ztk S k) = s 39 v := Decidable.not_not.mp h6
            refine az_to 2 (pc2 := 89) (lv2 := [some (az_r 34), some (az_i (((v : Nat) : Int))), some (az_i (x)), some (az_i (((k : Nat) : Int))), some (az_i (1)), some (az_i (((w : Nat) : Int)))]) (st2 := [az_i (((w : Nat) : Int)), az_i (x)]) (s2 := s) rfl ?_
            refine az_clv (v := some (az_i ((if x < (((w : Nat) : Int)) then x else (((w : Nat) : Int)))))) (t := s) (m2 := am_m_X10_lesser) (as := [az_i (x), az_i (((w : Nat) : Int))]) (rest := []) 92 rfl rfl ⟨rfl, rfl⟩ (by omega) (zs_X10_lesser (s := s) (x := x) (y := (((w : Nat) : Int))) (by omega) (by first | assumption | exact ⟨by omega, by omega⟩) (by first | assumption | exact ⟨by omega, by omega⟩)) ?_
            refine az_to 0 (pc2 := 92) (lv2 := [some (az_r 34), some (az_i (((v : Nat) : Int))), some (az_i (x)), some (az_i (((k : Nat) : Int))), some (az_i (1)), some (az_i (((w : Nat) : Int)))]) (st2 := [az_i ((if x < (((w : Nat) : Int)) then x else (((w : Nat) : Int))))]) (s2 := s) rfl ?_
            refine az_to 4 (pc2 := 5) (lv2 := [some (az_r 34), some (az_i (((v : Nat) : Int))), some (az_i ((if x < (((w : Nat) : Int)) then x else (((w : Nat) : Int))))), some (az_i ((((k : Nat) : Int) + 1))), some (az_i (1)), some (az_i (((w : Nat) : Int)))]) (st2 := []) (s2 := s) rfl ?_
            exact ih _ (by omega) (k + 1) _ _ _ rfl (by omega) (zh6_yes g1 hw6 hzw (by assumption))
set_option maxRecDepth 100000 in
set_option maxHeartbeats 800000 in
theorem zs_X10_hangsOn {d : Nat} {s : az_S} (hd : 3 ≤ d) {S : zR} {h : Nat} (hS : s 35 = S) (hI : zInv S h) (hh : h ≤ 10000) {f v : Nat} (hf : f < 6) (hv : v < 6) (hD : zgd S 1 f 9999 (s 39)) (h0 : ∃ E, zgd S 1 f 1000 E) (hr : s 39 v ≠ 9999) : az_R d am_m_X10_hangsOn 0 (az_ini (am_mL am_m_X10_hangsOn) [az_r 34, az_i (((v : Nat) : Int))]) [] (s) (az_ret (some (az_i (zhg S f v))) (s)) := by
  skip
  refine az_to 0 (pc2 := 0) (lv2 := [some (az_r 34), some (az_i (((v : Nat) : Int))), none, none, none, none]) (st2 := []) (s2 := s) rfl ?_
  refine az_to 4 (pc2 := 5) (lv2 := [some (az_r 34), some (az_i (((v : Nat) : Int))), some (az_i (6)), some (az_i (0)), none, none]) (st2 := []) (s2 := s) rfl ?_
  exact zs_X10_hangsOn_L5 (by omega) hS hI hh hf hv hD h0 hr _ 0 _ _ _ rfl (by omega) zh6_0
set_option maxRecDepth 100000 in
set_option maxHeartbeats 800000 in
theorem zs_X10_hangs {d : Nat} {s : az_S} (hd : 7 ≤ d) {S : zR} {h : Nat} (hS : s 35 = S) (hI : zInv S h) (hh : h ≤ 10000) {zf0 : Int} {zv : Int} (h_zf0 : az_in zf0) (h_zv : az_in zv) (h0 : ∀ m f, f < 6 → ∃ E, zgd S m f 1000 E) : az_R d am_m_X10_hangs 0 (az_ini (am_mL am_m_X10_hangs) [az_r 34, az_i (zf0), az_i (zv)]) [] (s) (zmq s (zq_hangs S zf0 zv)) := by
  have hz := zI_h hI hh
  have hs0 : s 35 0 = ((zn S 0 : Nat) : Int) := by rw [hS, hz.2.1.1]
  have hs1 : s 35 1 = ((zn S 1 : Nat) : Int) := by rw [hS, hz.2.1.2.1]
  have hs2 : s 35 2 = ((zn S 2 : Nat) : Int) := by rw [hS, hz.2.1.2.2]
  have hs3 : s 35 3 = S 3 := by rw [hS]
  have hs5 : s 35 5 = S 5 := by rw [hS]
  refine az_to 0 (pc2 := 0) (lv2 := [some (az_r 34), some (az_i (zf0)), some (az_i (zv))]) (st2 := []) (s2 := s) rfl ?_
  refine az_to 2 (pc2 := 2) (lv2 := [some (az_r 34), some (az_i (zf0)), some (az_i (zv))]) (st2 := [az_i (zf0), az_r 34]) (s2 := s) rfl ?_
  refine az_clv (v := some (az_i (az_b (0 ≤ zf0 ∧ zf0 ≤ 5)))) (t := s) (m2 := am_m_X10_isLand) (as := [az_i (zf0)]) (rest := [az_r 34]) 5 rfl rfl ⟨rfl, rfl⟩ (by omega) (zs_X10_isLand (s := s) (z := zf0) (by omega) (by first | assumption | exact ⟨by omega, by omega⟩)) ?_
  refine az_to 0 (pc2 := 5) (lv2 := [some (az_r 34), some (az_i (zf0)), some (az_i (zv))]) (st2 := [az_i (az_b (0 ≤ zf0 ∧ zf0 ≤ 5)), az_r 34]) (s2 := s) rfl ?_
  refine az_ifbe 15 8 rfl (by decide) (fun h1 => ?_) (fun h1 => ?_)
  · have h1 : ¬ (0 ≤ zf0 ∧ zf0 ≤ 5) := h1
    refine az_to 3 (pc2 := 21) (lv2 := [some (az_r 34), some (az_i (zf0)), some (az_i (zv))]) (st2 := [az_i (1), az_i (1), az_r 34]) (s2 := s) rfl ?_
    refine az_clv (v := some (az_i (1))) (t := am_up s 34 6 (1)) (m2 := am_m_X10_isThrown) (as := [az_r 34, az_i (1), az_i (1)]) (rest := []) 24 rfl rfl ⟨rfl, rfl⟩ (by omega) (zs_X10_isThrown_t (s := s) (v := 1) (by omega) ) ?_
    refine az_to 0 (pc2 := 24) (lv2 := [some (az_r 34), some (az_i (zf0)), some (az_i (zv))]) (st2 := [az_i (1)]) (s2 := am_up s 34 6 (1)) rfl ?_
    refine az_ifc 29 27 rfl (by decide) ⟨by decide, by decide⟩ (fun h => absurd h (by unfold az_cnd; decide)) (fun _ => ?_)
    refine az_to 1 (pc2 := 28) (lv2 := [some (az_r 34), some (az_i (zf0)), some (az_i (zv))]) (st2 := [az_i (0)]) (s2 := am_up s 34 6 (1)) rfl ?_
    refine az_retI rfl rfl ?_
    have e : zq_hangs S zf0 zv = (1, 0) := by
      simp only [zq_hangs, Int.toNat_natCast]
      first | (rw [if_pos (by omega)]) | (rw [if_neg (by omega), if_pos (by omega)]) | (rw [if_neg (by omega), if_neg (by omega), if_pos (by omega)]) | (rw [if_neg (by omega), if_neg (by omega), if_neg (by omega), if_pos (by omega)])
    rw [e]
    exact ⟨rfl, rfl, fun j hj => by simp [am_up, hj], fun i h1 h2 => by funext j; simp [am_up, h1]⟩
  · have h1 : 0 ≤ zf0 ∧ zf0 ≤ 5 := h1
    obtain ⟨f, rfl⟩ : ∃ n0 : Nat, zf0 = n0 := ⟨zf0.toNat, by omega⟩
    refine az_to 0 (pc2 := 8) (lv2 := [some (az_r 34), some (az_i (((f : Nat) : Int))), some (az_i (zv))]) (st2 := [az_r 34]) (s2 := s) (rfl) ?_
    refine az_to 1 (pc2 := 9) (lv2 := [some (az_r 34), some (az_i (((f : Nat) : Int))), some (az_i (zv))]) (st2 := [az_i (zv), az_r 34]) (s2 := s) rfl ?_
    refine az_clv (v := some (az_i (az_b (0 ≤ zv ∧ zv ≤ 5)))) (t := s) (m2 := am_m_X10_isLand) (as := [az_i (zv)]) (rest := [az_r 34]) 12 rfl rfl ⟨rfl, rfl⟩ (by omega) (zs_X10_isLand (s := s) (z := zv) (by omega) (by first | assumption | exact ⟨by omega, by omega⟩)) ?_
    refine az_to 0 (pc2 := 12) (lv2 := [some (az_r 34), some (az_i (((f : Nat) : Int))), some (az_i (zv))]) (st2 := [az_i (az_b (0 ≤ zv ∧ zv ≤ 5)), az_r 34]) (s2 := s) rfl ?_
    refine az_ifbn 19 15 rfl (by decide) (fun h2 => ?_) (fun h2 => ?_)
    · have h2 : 0 ≤ zv ∧ zv ≤ 5 := h2
      obtain ⟨v, rfl⟩ : ∃ n0 : Nat, zv = n0 := ⟨zv.toNat, by omega⟩
      refine az_to 0 (pc2 := 19) (lv2 := [some (az_r 34), some (az_i (((f : Nat) : Int))), some (az_i (((v : Nat) : Int)))]) (st2 := [az_r 34]) (s2 := s) (rfl) ?_
      refine az_to 2 (pc2 := 21) (lv2 := [some (az_r 34), some (az_i (((f : Nat) : Int))), some (az_i (((v : Nat) : Int)))]) (st2 := [az_i (1), az_i (0), az_r 34]) (s2 := s) rfl ?_
      refine az_clv (v := some (az_i (0))) (t := am_up s 34 6 (0)) (m2 := am_m_X10_isThrown) (as := [az_r 34, az_i (0), az_i (1)]) (rest := []) 24 rfl rfl ⟨rfl, rfl⟩ (by omega) (zs_X10_isThrown_f (s := s) (v := 1) (by omega) ) ?_
      refine az_to 0 (pc2 := 24) (lv2 := [some (az_r 34), some (az_i (((f : Nat) : Int))), some (az_i (((v : Nat) : Int)))]) (st2 := [az_i (0)]) (s2 := am_up s 34 6 (0)) rfl ?_
      refine az_ifc 29 27 rfl (by decide) ⟨by decide, by decide⟩ (fun _ => ?_) (fun h => absurd (show az_cnd _ _ _ by unfold az_cnd; decide) h)
      refine az_to 3 (pc2 := 32) (lv2 := [some (az_r 34), some (az_i (((f : Nat) : Int))), some (az_i (((v : Nat) : Int)))]) (st2 := [az_i (1), az_i (((f : Nat) : Int)), az_r 34]) (s2 := am_up s 34 6 (0)) rfl ?_
      refine az_cl (m2 := am_m_X10_goesFrom) (as := [az_r 34, az_i (((f : Nat) : Int)), az_i (1)]) (rest := []) 35 rfl rfl ⟨rfl, rfl⟩ (by omega) (zs_X10_goesFrom_1 (s := am_up s 34 6 (0)) (f := f) (by omega) hS hI hh (by omega)) (fun v3 t3 q3 => ?_) (fun E t3 q3 => by cases q3.1)
      obtain ⟨o3, ff3, gg3⟩ := q3
      cases o3
      refine az_to 0 (pc2 := 35) (lv2 := [some (az_r 34), some (az_i (((f : Nat) : Int))), some (az_i (((v : Nat) : Int)))]) (st2 := []) (s2 := t3) rfl ?_
      have hwr := zdi_r hI hh (by omega) (T := 9999) (by omega) ff3 (h0 1 f (by omega)) (v := v) (by omega)
      have hwd : zwy S 1 f v = if zdi S 1 f v = 1000 then -1 else zdi S 1 f v := rfl
      have hw2 : t3 39 v = 9999 → zwy S 1 f v = -1 := fun q => by rw [hwd, if_pos (by omega)]
      have hw3 : ¬ t3 39 v = 9999 → zwy S 1 f v = t3 39 v := fun q => by rw [hwd, if_neg (by omega)]; omega
      have hff : f < 6 := by omega
      have hvv : v < 6 := by omega
      have hDD := ff3
      have h00 := h0 1 f hff
      refine az_to 4 (pc2 := 41) (lv2 := [some (az_r 34), some (az_i (((f : Nat) : Int))), some (az_i (((v : Nat) : Int)))]) (st2 := [az_i (((v : Nat) : Int)), az_r 39, az_r 34]) (s2 := t3) rfl ?_
      refine az_ld_i 42 rfl rfl (by constructor <;> omega) ⟨by decide, rfl⟩ ?_
      refine az_to 0 (pc2 := 42) (lv2 := [some (az_r 34), some (az_i (((f : Nat) : Int))), some (az_i (((v : Nat) : Int)))]) (st2 := [az_i (t3 39 v), az_r 34]) (s2 := t3) rfl ?_
      refine az_to 1 (pc2 := 45) (lv2 := [some (az_r 34), some (az_i (((f : Nat) : Int))), some (az_i (((v : Nat) : Int)))]) (st2 := [az_i (9999), az_i (t3 39 v), az_r 34]) (s2 := t3) rfl ?_
      refine az_if2 52 48 rfl (by decide) (by first | assumption | exact ⟨by omega, by omega⟩) ⟨by decide, by decide⟩ (fun h4 => ?_) (fun h4 => ?_)
      · have h4 : ¬ t3 39 v = 9999 := h4
        refine az_to 2 (pc2 := 54) (lv2 := [some (az_r 34), some (az_i (((f : Nat) : Int))), some (az_i (((v : Nat) : Int)))]) (st2 := [az_i (2), az_i (0), az_r 34]) (s2 := t3) rfl ?_
        refine az_clv (v := some (az_i (0))) (t := am_up t3 34 6 (0)) (m2 := am_m_X10_isThrown) (as := [az_r 34, az_i (0), az_i (2)]) (rest := []) 57 rfl rfl ⟨rfl, rfl⟩ (by omega) (zs_X10_isThrown_f (s := t3) (v := 2) (by omega) ) ?_
        refine az_to 0 (pc2 := 57) (lv2 := [some (az_r 34), some (az_i (((f : Nat) : Int))), some (az_i (((v : Nat) : Int)))]) (st2 := [az_i (0)]) (s2 := am_up t3 34 6 (0)) rfl ?_
        refine az_ifc 64 60 rfl (by decide) ⟨by decide, by decide⟩ (fun _ => ?_) (fun h => absurd (show az_cnd _ _ _ by unfold az_cnd; decide) h)
        refine az_to 2 (pc2 := 66) (lv2 := [some (az_r 34), some (az_i (((f : Nat) : Int))), some (az_i (((v : Nat) : Int)))]) (st2 := [az_i (((v : Nat) : Int)), az_r 34]) (s2 := am_up t3 34 6 (0)) rfl ?_
        refine az_clv (v := some (az_i (zhg S f v))) (t := am_up t3 34 6 (0)) (m2 := am_m_X10_hangsOn) (as := [az_r 34, az_i (((v : Nat) : Int))]) (rest := []) 69 rfl rfl ⟨rfl, rfl⟩ (by omega) (zs_X10_hangsOn (s := am_up t3 34 6 (0)) (v := v) (by omega) (show am_up t3 34 6 0 35 = S from (by show t3 35 = S; rw [gg3 35 (by decide)]; exact hS)) hI hh hff hvv (show zgd S 1 f 9999 (am_up t3 34 6 0 39) from ff3) h00 (by assumption)) ?_
        refine az_to 0 (pc2 := 69) (lv2 := [some (az_r 34), some (az_i (((f : Nat) : Int))), some (az_i (((v : Nat) : Int)))]) (st2 := [az_i (zhg S f v)]) (s2 := am_up t3 34 6 (0)) rfl ?_
        refine az_retI rfl rfl ?_
        have e : zq_hangs S ((f : Nat) : Int) ((v : Nat) : Int) = (0, zhg S f v) := by
          simp only [zq_hangs, Int.toNat_natCast]
          rw [if_neg (by omega), if_neg (by rw [hw3 (by assumption)]; omega)]
        rw [e]
        exact ⟨rfl, rfl, fun j0 hj => by simp only [am_up, if_true, if_neg hj]; rw [gg3 34 (by decide)]; simp [am_up, hj], fun i h1 h2 => by have q8 := gg3 i h2; funext b; have q9 := congrFun q8 b; simp only [am_up, if_neg h1] at q9 ⊢; exact q9⟩
      · have h4 : t3 39 v = 9999 := Decidable.not_not.mp h4
        refine az_to 3 (pc2 := 54) (lv2 := [some (az_r 34), some (az_i (((f : Nat) : Int))), some (az_i (((v : Nat) : Int)))]) (st2 := [az_i (2), az_i (1), az_r 34]) (s2 := t3) rfl ?_
        refine az_clv (v := some (az_i (1))) (t := am_up t3 34 6 (2)) (m2 := am_m_X10_isThrown) (as := [az_r 34, az_i (1), az_i (2)]) (rest := []) 57 rfl rfl ⟨rfl, rfl⟩ (by omega) (zs_X10_isThrown_t (s := t3) (v := 2) (by omega) ) ?_
        refine az_to 0 (pc2 := 57) (lv2 := [some (az_r 34), some (az_i (((f : Nat) : Int))), some (az_i (((v : Nat) : Int)))]) (st2 := [az_i (1)]) (s2 := am_up t3 34 6 (2)) rfl ?_
        refine az_ifc 64 60 rfl (by decide) ⟨by decide, by decide⟩ (fun h => absurd h (by unfold az_cnd; decide)) (fun _ => ?_)
        refine az_to 2 (pc2 := 69) (lv2 := [some (az_r 34), some (az_i (((f : Nat) : Int))), some (az_i (((v : Nat) : Int)))]) (st2 := [az_i (0)]) (s2 := am_up t3 34 6 (2)) rfl ?_
        refine az_retI rfl rfl ?_
        have e : zq_hangs S ((f : Nat) : Int) ((v : Nat) : Int) = (2, 0) := by
          simp only [zq_hangs, Int.toNat_natCast]
          rw [if_neg (by omega), if_pos (hw2 (by assumption))]
        rw [e]
        exact ⟨rfl, rfl, fun j0 hj => by simp only [am_up, if_true, if_neg hj]; rw [gg3 34 (by decide)]; simp [am_up, hj], fun i h1 h2 => by have q8 := gg3 i h2; funext b; have q9 := congrFun q8 b; simp only [am_up, if_neg h1] at q9 ⊢; exact q9⟩
    · have h2 : ¬ (0 ≤ zv ∧ zv ≤ 5) := h2
      refine az_to 3 (pc2 := 21) (lv2 := [some (az_r 34), some (az_i (((f : Nat) : Int))), some (az_i (zv))]) (st2 := [az_i (1), az_i (1), az_r 34]) (s2 := s) rfl ?_
      refine az_clv (v := some (az_i (1))) (t := am_up s 34 6 (1)) (m2 := am_m_X10_isThrown) (as := [az_r 34, az_i (1), az_i (1)]) (rest := []) 24 rfl rfl ⟨rfl, rfl⟩ (by omega) (zs_X10_isThrown_t (s := s) (v := 1) (by omega) ) ?_
      refine az_to 0 (pc2 := 24) (lv2 := [some (az_r 34), some (az_i (((f : Nat) : Int))), some (az_i (zv))]) (st2 := [az_i (1)]) (s2 := am_up s 34 6 (1)) rfl ?_
      refine az_ifc 29 27 rfl (by decide) ⟨by decide, by decide⟩ (fun h => absurd h (by unfold az_cnd; decide)) (fun _ => ?_)
      refine az_to 1 (pc2 := 28) (lv2 := [some (az_r 34), some (az_i (((f : Nat) : Int))), some (az_i (zv))]) (st2 := [az_i (0)]) (s2 := am_up s 34 6 (1)) rfl ?_
      refine az_retI rfl rfl ?_
      have e : zq_hangs S ((f : Nat) : Int) zv = (1, 0) := by
        simp only [zq_hangs, Int.toNat_natCast]
        first | (rw [if_pos (by omega)]) | (rw [if_neg (by omega), if_pos (by omega)]) | (rw [if_neg (by omega), if_neg (by omega), if_pos (by omega)]) | (rw [if_neg (by omega), if_neg (by omega), if_neg (by omega), if_pos (by omega)])
      rw [e]
      exact ⟨rfl, rfl, fun j hj => by simp [am_up, hj], fun i h1 h2 => by funext j; simp [am_up, h1]⟩
set_option maxRecDepth 100000 in
set_option maxHeartbeats 800000 in
theorem zs_X10_sum_1_L9 {d : Nat} {s : az_S} (hd : 3 ≤ d) {S : zR} {h : Nat} (hS : s 35 = S) (hI : zInv S h) (hh : h ≤ 10000) : ∀ (mq : Nat) (k : Nat), mq = zn S 0 - k → (k ≤ zn S 0) → az_R d am_m_X10_sum 9 [some (az_r 34), some (az_i (1)), some (az_i (zs k (fun b => if True ∨ ¬ S 3 < zB S b 4 then zB S b 3 else 0))), some (az_i (((k : Nat) : Int)))] [] (am_up s 34 6 (0)) (az_ret (some (az_i (ztl S True))) (am_up s 34 6 (0))) := by
  intro mq
  induction mq using Nat.strongRecOn with
  | _ mq ih =>
    intro k hm g0
    have hz := zI_h hI hh
    have hs0 : s 35 0 = ((zn S 0 : Nat) : Int) := by rw [hS, hz.2.1.1]
    have hs1 : s 35 1 = ((zn S 1 : Nat) : Int) := by rw [hS, hz.2.1.2.1]
    have hs2 : s 35 2 = ((zn S 2 : Nat) : Int) := by rw [hS, hz.2.1.2.2]
    have hs3 : s 35 3 = S 3 := by rw [hS]
    have hs5 : s 35 5 = S 5 := by rw [hS]
    refine az_to 4 (pc2 := 15) (lv2 := [some (az_r 34), some (az_i (1)), some (az_i (zs k (fun b => if True ∨ ¬ S 3 < zB S b 4 then zB S b 3 else 0))), some (az_i (((k : Nat) : Int)))]) (st2 := [az_i (0), az_r 35, az_i (((k : Nat) : Int))]) (s2 := am_up s 34 6 (0)) rfl ?_
    refine az_ld_i 16 rfl rfl (by constructor <;> omega) ⟨by decide, rfl⟩ ?_
    refine az_to 0 (pc2 := 16) (lv2 := [some (az_r 34), some (az_i (1)), some (az_i (zs k (fun b => if True ∨ ¬ S 3 < zB S b 4 then zB S b 3 else 0))), some (az_i (((k : Nat) : Int)))]) (st2 := [az_i ((am_up s 34 6 (0)) 35 0), az_i (((k : Nat) : Int))]) (s2 := am_up s 34 6 (0)) rfl ?_
    refine az_to 0 (pc2 := 16) (lv2 := [some (az_r 34), some (az_i (1)), some (az_i (zs k (fun b => if True ∨ ¬ S 3 < zB S b 4 then zB S b 3 else 0))), some (az_i (((k : Nat) : Int)))]) (st2 := [az_i (((zn S 0 : Nat) : Int)), az_i (((k : Nat) : Int))]) (s2 := am_up s 34 6 (0)) (by rw [show (am_up s 34 6 (0)) 35 0 = ((zn S 0 : Nat) : Int) from hs0]; rfl) ?_
    refine az_if2 50 19 rfl (by decide) (by first | assumption | exact ⟨by omega, by omega⟩) (by first | assumption | exact ⟨by omega, by omega⟩) (fun h1 => ?_) (fun h1 => ?_)
    · have h1 : ((zn S 0 : Nat) : Int) ≤ ((k : Nat) : Int) := h1
      refine az_to 1 (pc2 := 51) (lv2 := [some (az_r 34), some (az_i (1)), some (az_i (zs k (fun b => if True ∨ ¬ S 3 < zB S b 4 then zB S b 3 else 0))), some (az_i (((k : Nat) : Int)))]) (st2 := [az_i (zs k (fun b => if True ∨ ¬ S 3 < zB S b 4 then zB S b 3 else 0))]) (s2 := am_up s 34 6 (0)) rfl ?_
      refine az_retI rfl rfl ?_
      obtain rfl : k = zn S 0 := by omega
      exact ⟨rfl, rfl⟩
    · have h1 : ¬ (((zn S 0 : Nat) : Int) ≤ ((k : Nat) : Int)) := h1
      refine az_to 2 (pc2 := 21) (lv2 := [some (az_r 34), some (az_i (1)), some (az_i (zs k (fun b => if True ∨ ¬ S 3 < zB S b 4 then zB S b 3 else 0))), some (az_i (((k : Nat) : Int)))]) (st2 := [az_i (1), az_i (zs k (fun b => if True ∨ ¬ S 3 < zB S b 4 then zB S b 3 else 0))]) (s2 := am_up s 34 6 (0)) rfl ?_
      refine az_ifc 32 24 rfl (by decide) ⟨by decide, by decide⟩ (fun _ => ?_) (fun h => absurd (show az_cnd _ _ _ by unfold az_cnd; decide) h)
      refine az_to 3 (pc2 := 35) (lv2 := [some (az_r 34), some (az_i (1)), some (az_i (zs k (fun b => if True ∨ ¬ S 3 < zB S b 4 then zB S b 3 else 0))), some (az_i (((k : Nat) : Int)))]) (st2 := [az_i (3), az_i (((k : Nat) : Int)), az_r 34, az_i (zs k (fun b => if True ∨ ¬ S 3 < zB S b 4 then zB S b 3 else 0))]) (s2 := am_up s 34 6 (0)) rfl ?_
      refine az_clv (v := some (az_i (zB S k 3))) (t := am_up s 34 6 (0)) (m2 := am_m_X10_of) (as := [az_r 34, az_i (((k : Nat) : Int)), az_i (3)]) (rest := [az_i (zs k (fun b => if True ∨ ¬ S 3 < zB S b 4 then zB S b 3 else 0))]) 38 rfl rfl ⟨rfl, rfl⟩ (by omega) (zs_X10_of (s := am_up s 34 6 (0)) (b := k) (k := 3) (by omega) hS (by omega) (by omega)) ?_
      refine az_to 0 (pc2 := 38) (lv2 := [some (az_r 34), some (az_i (1)), some (az_i (zs k (fun b => if True ∨ ¬ S 3 < zB S b 4 then zB S b 3 else 0))), some (az_i (((k : Nat) : Int)))]) (st2 := [az_i (zB S k 3), az_i (zs k (fun b => if True ∨ ¬ S 3 < zB S b 4 then zB S b 3 else 0))]) (s2 := am_up s 34 6 (0)) rfl ?_
      refine az_to 5 (pc2 := 9) (lv2 := [some (az_r 34), some (az_i (1)), some (az_i ((zs k (fun b => if True ∨ ¬ S 3 < zB S b 4 then zB S b 3 else 0) + zB S k 3))), some (az_i ((((k : Nat) : Int) + 1)))]) (st2 := []) (s2 := am_up s 34 6 (0)) rfl ?_
      have e9 : (zs k (fun b => if True ∨ ¬ S 3 < zB S b 4 then zB S b 3 else 0) + zB S k 3) = zs (k + 1) (fun b => if True ∨ ¬ S 3 < zB S b 4 then zB S b 3 else 0) := by
        show _ = zs k _ + _
        dsimp only
        first | (rw [if_pos (Or.inl trivial)]) | (rw [if_pos (Or.inr (by assumption))]) | (rw [if_neg (by intro q; rcases q with q | q <;> contradiction)])
      rw [e9]
      exact ih _ (by omega) (k + 1) rfl (by omega)
set_option maxRecDepth 100000 in
set_option maxHeartbeats 800000 in
theorem zs_X10_sum_1 {d : Nat} {s : az_S} (hd : 3 ≤ d) {S : zR} {h : Nat} (hS : s 35 = S) (hI : zInv S h) (hh : h ≤ 10000) : az_R d am_m_X10_sum 0 (az_ini (am_mL am_m_X10_sum) [az_r 34, az_i (1)]) [] (s) (az_ret (some (az_i (ztl S True))) (am_up s 34 6 (0))) := by
  have hz := zI_h hI hh
  have hs0 : s 35 0 = ((zn S 0 : Nat) : Int) := by rw [hS, hz.2.1.1]
  have hs1 : s 35 1 = ((zn S 1 : Nat) : Int) := by rw [hS, hz.2.1.2.1]
  have hs2 : s 35 2 = ((zn S 2 : Nat) : Int) := by rw [hS, hz.2.1.2.2]
  have hs3 : s 35 3 = S 3 := by rw [hS]
  have hs5 : s 35 5 = S 5 := by rw [hS]
  refine az_to 0 (pc2 := 0) (lv2 := [some (az_r 34), some (az_i (1)), none, none]) (st2 := []) (s2 := s) rfl ?_
  refine az_to 7 (pc2 := 9) (lv2 := [some (az_r 34), some (az_i (1)), some (az_i (0)), some (az_i (0))]) (st2 := []) (s2 := am_up s 34 6 (0)) rfl ?_
  exact zs_X10_sum_1_L9 (by omega) hS hI hh _ 0 rfl (by omega)
set_option maxRecDepth 100000 in
set_option maxHeartbeats 800000 in
theorem zs_X10_sum_0_L9 {d : Nat} {s : az_S} (hd : 3 ≤ d) {S : zR} {h : Nat} (hS : s 35 = S) (hI : zInv S h) (hh : h ≤ 10000) : ∀ (mq : Nat) (k : Nat), mq = zn S 0 - k → (k ≤ zn S 0) → az_R d am_m_X10_sum 9 [some (az_r 34), some (az_i (0)), some (az_i (zs k (fun b => if False ∨ ¬ S 3 < zB S b 4 then zB S b 3 else 0))), some (az_i (((k : Nat) : Int)))] [] (am_up s 34 6 (0)) (az_ret (some (az_i (ztl S False))) (am_up s 34 6 (0))) := by
  intro mq
  induction mq using Nat.strongRecOn with
  | _ mq ih =>
    intro k hm g0
    have hz := zI_h hI hh
    have hs0 : s 35 0 = ((zn S 0 : Nat) : Int) := by rw [hS, hz.2.1.1]
    have hs1 : s 35 1 = ((zn S 1 : Nat) : Int) := by rw [hS, hz.2.1.2.1]
    have hs2 : s 35 2 = ((zn S 2 : Nat) : Int) := by rw [hS, hz.2.1.2.2]
    have hs3 : s 35 3 = S 3 := by rw [hS]
    have hs5 : s 35 5 = S 5 := by rw [hS]
    refine az_to 4 (pc2 := 15) (lv2 := [some (az_r 34), some (az_i (0)), some (az_i (zs k (fun b => if False ∨ ¬ S 3 < zB S b 4 then zB S b 3 else 0))), some (az_i (((k : Nat) : Int)))]) (st2 := [az_i (0), az_r 35, az_i (((k : Nat) : Int))]) (s2 := am_up s 34 6 (0)) rfl ?_
    refine az_ld_i 16 rfl rfl (by constructor <;> omega) ⟨by decide, rfl⟩ ?_
    refine az_to 0 (pc2 := 16) (lv2 := [some (az_r 34), some (az_i (0)), some (az_i (zs k (fun b => if False ∨ ¬ S 3 < zB S b 4 then zB S b 3 else 0))), some (az_i (((k : Nat) : Int)))]) (st2 := [az_i ((am_up s 34 6 (0)) 35 0), az_i (((k : Nat) : Int))]) (s2 := am_up s 34 6 (0)) rfl ?_
    refine az_to 0 (pc2 := 16) (lv2 := [some (az_r 34), some (az_i (0)), some (az_i (zs k (fun b => if False ∨ ¬ S 3 < zB S b 4 then zB S b 3 else 0))), some (az_i (((k : Nat) : Int)))]) (st2 := [az_i (((zn S 0 : Nat) : Int)), az_i (((k : Nat) : Int))]) (s2 := am_up s 34 6 (0)) (by rw [show (am_up s 34 6 (0)) 35 0 = ((zn S 0 : Nat) : Int) from hs0]; rfl) ?_
    refine az_if2 50 19 rfl (by decide) (by first | assumption | exact ⟨by omega, by omega⟩) (by first | assumption | exact ⟨by omega, by omega⟩) (fun h1 => ?_) (fun h1 => ?_)
    · have h1 : ((zn S 0 : Nat) : Int) ≤ ((k : Nat) : Int) := h1
      refine az_to 1 (pc2 := 51) (lv2 := [some (az_r 34), some (az_i (0)), some (az_i (zs k (fun b => if False ∨ ¬ S 3 < zB S b 4 then zB S b 3 else 0))), some (az_i (((k : Nat) : Int)))]) (st2 := [az_i (zs k (fun b => if False ∨ ¬ S 3 < zB S b 4 then zB S b 3 else 0))]) (s2 := am_up s 34 6 (0)) rfl ?_
      refine az_retI rfl rfl ?_
      obtain rfl : k = zn S 0 := by omega
      exact ⟨rfl, rfl⟩
    · have h1 : ¬ (((zn S 0 : Nat) : Int) ≤ ((k : Nat) : Int)) := h1
      refine az_to 2 (pc2 := 21) (lv2 := [some (az_r 34), some (az_i (0)), some (az_i (zs k (fun b => if False ∨ ¬ S 3 < zB S b 4 then zB S b 3 else 0))), some (az_i (((k : Nat) : Int)))]) (st2 := [az_i (0), az_i (zs k (fun b => if False ∨ ¬ S 3 < zB S b 4 then zB S b 3 else 0))]) (s2 := am_up s 34 6 (0)) rfl ?_
      refine az_ifc 32 24 rfl (by decide) ⟨by decide, by decide⟩ (fun h => absurd h (by unfold az_cnd; decide)) (fun _ => ?_)
      refine az_to 2 (pc2 := 26) (lv2 := [some (az_r 34), some (az_i (0)), some (az_i (zs k (fun b => if False ∨ ¬ S 3 < zB S b 4 then zB S b 3 else 0))), some (az_i (((k : Nat) : Int)))]) (st2 := [az_i (((k : Nat) : Int)), az_r 34, az_i (zs k (fun b => if False ∨ ¬ S 3 < zB S b 4 then zB S b 3 else 0))]) (s2 := am_up s 34 6 (0)) rfl ?_
      refine az_clv (v := some (az_i (az_b (S 3 < zB S k 4)))) (t := am_up s 34 6 (0)) (m2 := am_m_X10_isInFog) (as := [az_r 34, az_i (((k : Nat) : Int))]) (rest := [az_i (zs k (fun b => if False ∨ ¬ S 3 < zB S b 4 then zB S b 3 else 0))]) 29 rfl rfl ⟨rfl, rfl⟩ (by omega) (zs_X10_isInFog (s := am_up s 34 6 (0)) (b := k) (by omega) hS hI hh (by omega)) ?_
      refine az_to 0 (pc2 := 29) (lv2 := [some (az_r 34), some (az_i (0)), some (az_i (zs k (fun b => if False ∨ ¬ S 3 < zB S b 4 then zB S b 3 else 0))), some (az_i (((k : Nat) : Int)))]) (st2 := [az_i (az_b (S 3 < zB S k 4)), az_i (zs k (fun b => if False ∨ ¬ S 3 < zB S b 4 then zB S b 3 else 0))]) (s2 := am_up s 34 6 (0)) rfl ?_
      refine az_ifbn 41 32 rfl (by decide) (fun h2 => ?_) (fun h2 => ?_)
      · have h2 : S 3 < zB S k 4 := h2
        refine az_to 5 (pc2 := 9) (lv2 := [some (az_r 34), some (az_i (0)), some (az_i ((zs k (fun b => if False ∨ ¬ S 3 < zB S b 4 then zB S b 3 else 0) + 0))), some (az_i ((((k : Nat) : Int) + 1)))]) (st2 := []) (s2 := am_up s 34 6 (0)) rfl ?_
        have e9 : (zs k (fun b => if False ∨ ¬ S 3 < zB S b 4 then zB S b 3 else 0) + 0) = zs (k + 1) (fun b => if False ∨ ¬ S 3 < zB S b 4 then zB S b 3 else 0) := by
          show _ = zs k _ + _
          dsimp only
          first | (rw [if_pos (Or.inl trivial)]) | (rw [if_pos (Or.inr (by assumption))]) | (rw [if_neg (by intro q; rcases q with q | q <;> contradiction)])
        rw [e9]
        exact ih _ (by omega) (k + 1) rfl (by omega)
      · have h2 : ¬ (S 3 < zB S k 4) := h2
        refine az_to 3 (pc2 := 35) (lv2 := [some (az_r 34), some (az_i (0)), some (az_i (zs k (fun b => if False ∨ ¬ S 3 < zB S b 4 then zB S b 3 else 0))), some (az_i (((k : Nat) : Int)))]) (st2 := [az_i (3), az_i (((k : Nat) : Int)), az_r 34, az_i (zs k (fun b => if False ∨ ¬ S 3 < zB S b 4 then zB S b 3 else 0))]) (s2 := am_up s 34 6 (0)) rfl ?_
        refine az_clv (v := some (az_i (zB S k 3))) (t := am_up s 34 6 (0)) (m2 := am_m_X10_of) (as := [az_r 34, az_i (((k : Nat) : Int)), az_i (3)]) (rest := [az_i (zs k (fun b => if False ∨ ¬ S 3 < zB S b 4 then zB S b 3 else 0))]) 38 rfl rfl ⟨rfl, rfl⟩ (by omega) (zs_X10_of (s := am_up s 34 6 (0)) (b := k) (k := 3) (by omega) hS (by omega) (by omega)) ?_
        refine az_to 0 (pc2 := 38) (lv2 := [some (az_r 34), some (az_i (0)), some (az_i (zs k (fun b => if False ∨ ¬ S 3 < zB S b 4 then zB S b 3 else 0))), some (az_i (((k : Nat) : Int)))]) (st2 := [az_i (zB S k 3), az_i (zs k (fun b => if False ∨ ¬ S 3 < zB S b 4 then zB S b 3 else 0))]) (s2 := am_up s 34 6 (0)) rfl ?_
        refine az_to 5 (pc2 := 9) (lv2 := [some (az_r 34), some (az_i (0)), some (az_i ((zs k (fun b => if False ∨ ¬ S 3 < zB S b 4 then zB S b 3 else 0) + zB S k 3))), some (az_i ((((k : Nat) : Int) + 1)))]) (st2 := []) (s2 := am_up s 34 6 (0)) rfl ?_
        have e9 : (zs k (fun b => if False ∨ ¬ S 3 < zB S b 4 then zB S b 3 else 0) + zB S k 3) = zs (k + 1) (fun b => if False ∨ ¬ S 3 < zB S b 4 then zB S b 3 else 0) := by
          show _ = zs k _ + _
          dsimp only
          first | (rw [if_pos (Or.inl trivial)]) | (rw [if_pos (Or.inr (by assumption))]) | (rw [if_neg (by intro q; rcases q with q | q <;> contradiction)])
        rw [e9]
        exact ih _ (by omega) (k + 1) rfl (by omega)
set_option maxRecDepth 100000 in
set_option maxHeartbeats 800000 in
theorem zs_X10_sum_0 {d : Nat} {s : az_S} (hd : 3 ≤ d) {S : zR} {h : Nat} (hS : s 35 = S) (hI : zInv S h) (hh : h ≤ 10000) : az_R d am_m_X10_sum 0 (az_ini (am_mL am_m_X10_sum) [az_r 34, az_i (0)]) [] (s) (az_ret (some (az_i (ztl S False))) (am_up s 34 6 (0))) := by
  have hz := zI_h hI hh
  have hs0 : s 35 0 = ((zn S 0 : Nat) : Int) := by rw [hS, hz.2.1.1]
  have hs1 : s 35 1 = ((zn S 1 : Nat) : Int) := by rw [hS, hz.2.1.2.1]
  have hs2 : s 35 2 = ((zn S 2 : Nat) : Int) := by rw [hS, hz.2.1.2.2]
  have hs3 : s 35 3 = S 3 := by rw [hS]
  have hs5 : s 35 5 = S 5 := by rw [hS]
  refine az_to 0 (pc2 := 0) (lv2 := [some (az_r 34), some (az_i (0)), none, none]) (st2 := []) (s2 := s) rfl ?_
  refine az_to 7 (pc2 := 9) (lv2 := [some (az_r 34), some (az_i (0)), some (az_i (0)), some (az_i (0))]) (st2 := []) (s2 := am_up s 34 6 (0)) rfl ?_
  exact zs_X10_sum_0_L9 (by omega) hS hI hh _ 0 rfl (by omega)
set_option maxRecDepth 100000 in
set_option maxHeartbeats 800000 in
theorem zs_X10_isGeneral {d : Nat} {s : az_S} (hd : 3 ≤ d) {S : zR} {h : Nat} (hS : s 35 = S) (hI : zInv S h) (hh : h ≤ 10000) : az_R d am_m_X10_isGeneral 0 (az_ini (am_mL am_m_X10_isGeneral) [az_r 34]) [] (s) (az_ret (some (az_i (az_b (zgen S)))) (am_up s 34 6 (0))) := by
  refine az_to 0 (pc2 := 0) (lv2 := [some (az_r 34)]) (st2 := []) (s2 := s) rfl ?_
  refine az_to 4 (pc2 := 6) (lv2 := [some (az_r 34)]) (st2 := [az_r 34]) (s2 := am_up s 34 6 (0)) rfl ?_
  refine az_clv (v := some (az_i (az_b (zgen S)))) (t := am_up s 34 6 (0)) (m2 := am_m_X10_isGeneralNow) (as := [az_r 34]) (rest := []) 9 rfl rfl ⟨rfl, rfl⟩ (by omega) (zs_X10_isGeneralNow (s := am_up s 34 6 (0))  (by omega) hS hI hh) ?_
  refine az_to 0 (pc2 := 9) (lv2 := [some (az_r 34)]) (st2 := [az_i (az_b (zgen S))]) (s2 := am_up s 34 6 (0)) rfl ?_
  refine az_retP rfl rfl ?_
  exact ⟨rfl, rfl⟩
set_option maxRecDepth 100000 in
set_option maxHeartbeats 800000 in
theorem zs_X10_crossedOf {d : Nat} {s : az_S} (hd : 1 ≤ d) {S : zR} {h : Nat} (hS : s 35 = S) (hI : zInv S h) (hh : h ≤ 10000) {t : Nat} (ht : t < zn S 1) : az_R d am_m_X10_crossedOf 0 (az_ini (am_mL am_m_X10_crossedOf) [az_r 34, az_i (((t : Nat) : Int))]) [] (s) (az_ret (some (az_i (zcw S t))) (s)) := by
  have hz := zI_h hI hh
  have hs0 : s 35 0 = ((zn S 0 : Nat) : Int) := by rw [hS, hz.2.1.1]
  have hs1 : s 35 1 = ((zn S 1 : Nat) : Int) := by rw [hS, hz.2.1.2.1]
  have hs2 : s 35 2 = ((zn S 2 : Nat) : Int) := by rw [hS, hz.2.1.2.2]
  have hs3 : s 35 3 = S 3 := by rw [hS]
  have hs5 : s 35 5 = S 5 := by rw [hS]
  have hzt := zI_t hI hh (t := t) (by omega)
  have hzu := hI.2.2.2.2.2.1 t ht
  refine az_to 0 (pc2 := 0) (lv2 := [some (az_r 34), some (az_i (((t : Nat) : Int)))]) (st2 := []) (s2 := s) rfl ?_
  refine az_to 3 (pc2 := 3) (lv2 := [some (az_r 34), some (az_i (((t : Nat) : Int)))]) (st2 := [az_i (0), az_i (((t : Nat) : Int)), az_r 34]) (s2 := s) rfl ?_
  refine az_clv (v := some (az_i (zT S t 0))) (t := s) (m2 := am_m_X10_ofTroll) (as := [az_r 34, az_i (((t : Nat) : Int)), az_i (0)]) (rest := []) 6 rfl rfl ⟨rfl, rfl⟩ (by omega) (zs_X10_ofTroll (s := s) (t := t) (k := 0) (by omega) hS (by omega) (by omega)) ?_
  refine az_to 0 (pc2 := 6) (lv2 := [some (az_r 34), some (az_i (((t : Nat) : Int)))]) (st2 := [az_i (zT S t 0)]) (s2 := s) rfl ?_
  refine az_ifc 13 9 rfl (by decide) (by first | assumption | exact ⟨by omega, by omega⟩) (fun h1 => ?_) (fun h1 => ?_)
  · have h1 : 0 ≤ zT S t 0 := h1
    obtain ⟨b, hb⟩ : ∃ n0 : Nat, zT S t 0 = n0 := ⟨(zT S t 0).toNat, by omega⟩
    refine az_to 0 (pc2 := 13) (lv2 := [some (az_r 34), some (az_i (((t : Nat) : Int)))]) (st2 := []) (s2 := s) (rfl) ?_
    refine az_to 4 (pc2 := 17) (lv2 := [some (az_r 34), some (az_i (((t : Nat) : Int)))]) (st2 := [az_i (0), az_i (((t : Nat) : Int)), az_r 34, az_r 34]) (s2 := s) rfl ?_
    refine az_clv (v := some (az_i (zT S t 0))) (t := s) (m2 := am_m_X10_ofTroll) (as := [az_r 34, az_i (((t : Nat) : Int)), az_i (0)]) (rest := [az_r 34]) 20 rfl rfl ⟨rfl, rfl⟩ (by omega) (zs_X10_ofTroll (s := s) (t := t) (k := 0) (by omega) hS (by omega) (by omega)) ?_
    refine az_to 0 (pc2 := 20) (lv2 := [some (az_r 34), some (az_i (((t : Nat) : Int)))]) (st2 := [az_i (zT S t 0), az_r 34]) (s2 := s) rfl ?_
    refine az_to 0 (pc2 := 20) (lv2 := [some (az_r 34), some (az_i (((t : Nat) : Int)))]) (st2 := [az_i (((b : Nat) : Int)), az_r 34]) (s2 := s) (by rw [hb]; rfl) ?_
    refine az_to 1 (pc2 := 22) (lv2 := [some (az_r 34), some (az_i (((t : Nat) : Int)))]) (st2 := [az_i (6), az_i (((b : Nat) : Int)), az_r 34]) (s2 := s) rfl ?_
    refine az_clv (v := some (az_i (zB S b 6))) (t := s) (m2 := am_m_X10_of) (as := [az_r 34, az_i (((b : Nat) : Int)), az_i (6)]) (rest := []) 25 rfl rfl ⟨rfl, rfl⟩ (by omega) (zs_X10_of (s := s) (b := b) (k := 6) (by omega) hS (by omega) (by omega)) ?_
    refine az_to 0 (pc2 := 25) (lv2 := [some (az_r 34), some (az_i (((t : Nat) : Int)))]) (st2 := [az_i (zB S b 6)]) (s2 := s) rfl ?_
    refine az_retI rfl rfl ?_
    exact ⟨by unfold zcw; rw [if_neg (by omega), hb]; rfl, rfl⟩
  · have h1 : ¬ (0 ≤ zT S t 0) := h1
    refine az_to 2 (pc2 := 25) (lv2 := [some (az_r 34), some (az_i (((t : Nat) : Int)))]) (st2 := [az_i (0)]) (s2 := s) rfl ?_
    refine az_retI rfl rfl ?_
    exact ⟨by unfold zcw; rw [if_pos (by omega)], rfl⟩
set_option maxRecDepth 100000 in
set_option maxHeartbeats 800000 in
theorem zs_X10_isAhead_1 {d : Nat} {s : az_S} (hd : 2 ≤ d) {S : zR} {h : Nat} (hS : s 35 = S) (hI : zInv S h) (hh : h ≤ 10000) {t u : Nat} (ht : t < zn S 1) (hu : u < zn S 1) : az_R d am_m_X10_isAhead 0 (az_ini (am_mL am_m_X10_isAhead) [az_r 34, az_i (1), az_i (((t : Nat) : Int)), az_i (((u : Nat) : Int))]) [] (s) (az_ret (some (az_i (az_b (zric S t u)))) (s)) := by
  have hz := zI_h hI hh
  have hs0 : s 35 0 = ((zn S 0 : Nat) : Int) := by rw [hS, hz.2.1.1]
  have hs1 : s 35 1 = ((zn S 1 : Nat) : Int) := by rw [hS, hz.2.1.2.1]
  have hs2 : s 35 2 = ((zn S 2 : Nat) : Int) := by rw [hS, hz.2.1.2.2]
  have hs3 : s 35 3 = S 3 := by rw [hS]
  have hs5 : s 35 5 = S 5 := by rw [hS]
  have hzt := zI_t hI hh (t := t) (by omega)
  have hzu := zI_t hI hh (t := u) (by omega)
  have hwt := zcw_r hI hh ht
  have hwu := zcw_r hI hh hu
  refine az_to 0 (pc2 := 0) (lv2 := [some (az_r 34), some (az_i (1)), some (az_i (((t : Nat) : Int))), some (az_i (((u : Nat) : Int))), none, none]) (st2 := []) (s2 := s) rfl ?_
  refine az_to 1 (pc2 := 1) (lv2 := [some (az_r 34), some (az_i (1)), some (az_i (((t : Nat) : Int))), some (az_i (((u : Nat) : Int))), none, none]) (st2 := [az_i (1)]) (s2 := s) rfl ?_
  refine az_ifc 20 4 rfl (by decide) ⟨by decide, by decide⟩ (fun h => absurd h (by unfold az_cnd; decide)) (fun _ => ?_)
  refine az_to 3 (pc2 := 7) (lv2 := [some (az_r 34), some (az_i (1)), some (az_i (((t : Nat) : Int))), some (az_i (((u : Nat) : Int))), none, none]) (st2 := [az_i (1), az_i (((t : Nat) : Int)), az_r 34]) (s2 := s) rfl ?_
  refine az_clv (v := some (az_i (zT S t 1))) (t := s) (m2 := am_m_X10_ofTroll) (as := [az_r 34, az_i (((t : Nat) : Int)), az_i (1)]) (rest := []) 10 rfl rfl ⟨rfl, rfl⟩ (by omega) (zs_X10_ofTroll (s := s) (t := t) (k := 1) (by omega) hS (by omega) (by omega)) ?_
  refine az_to 0 (pc2 := 10) (lv2 := [some (az_r 34), some (az_i (1)), some (az_i (((t : Nat) : Int))), some (az_i (((u : Nat) : Int))), none, none]) (st2 := [az_i (zT S t 1)]) (s2 := s) rfl ?_
  refine az_to 3 (pc2 := 13) (lv2 := [some (az_r 34), some (az_i (1)), some (az_i (((t : Nat) : Int))), some (az_i (((u : Nat) : Int))), none, none]) (st2 := [az_i (1), az_i (((u : Nat) : Int)), az_r 34, az_i (zT S t 1)]) (s2 := s) rfl ?_
  refine az_clv (v := some (az_i (zT S u 1))) (t := s) (m2 := am_m_X10_ofTroll) (as := [az_r 34, az_i (((u : Nat) : Int)), az_i (1)]) (rest := [az_i (zT S t 1)]) 16 rfl rfl ⟨rfl, rfl⟩ (by omega) (zs_X10_ofTroll (s := s) (t := u) (k := 1) (by omega) hS (by omega) (by omega)) ?_
  refine az_to 0 (pc2 := 16) (lv2 := [some (az_r 34), some (az_i (1)), some (az_i (((t : Nat) : Int))), some (az_i (((u : Nat) : Int))), none, none]) (st2 := [az_i (zT S u 1), az_i (zT S t 1)]) (s2 := s) rfl ?_
  refine az_to 4 (pc2 := 37) (lv2 := [some (az_r 34), some (az_i (1)), some (az_i (((t : Nat) : Int))), some (az_i (((u : Nat) : Int))), some (az_i ((zT S t 1 - zT S u 1))), none]) (st2 := [az_i ((zT S t 1 - zT S u 1))]) (s2 := s) rfl ?_
  refine az_ifc 51 40 rfl (by decide) (by first | assumption | exact ⟨by omega, by omega⟩) (fun h1 => ?_) (fun h1 => ?_)
  · have h1 : (zT S t 1 - zT S u 1) = 0 := h1
    refine az_to 1 (pc2 := 52) (lv2 := [some (az_r 34), some (az_i (1)), some (az_i (((t : Nat) : Int))), some (az_i (((u : Nat) : Int))), some (az_i ((zT S t 1 - zT S u 1))), none]) (st2 := [az_i (1)]) (s2 := s) rfl ?_
    refine az_ifc 69 55 rfl (by decide) ⟨by decide, by decide⟩ (fun h => absurd h (by unfold az_cnd; decide)) (fun _ => ?_)
    refine az_to 2 (pc2 := 57) (lv2 := [some (az_r 34), some (az_i (1)), some (az_i (((t : Nat) : Int))), some (az_i (((u : Nat) : Int))), some (az_i ((zT S t 1 - zT S u 1))), none]) (st2 := [az_i (((t : Nat) : Int)), az_r 34]) (s2 := s) rfl ?_
    refine az_clv (v := some (az_i (zcw S t))) (t := s) (m2 := am_m_X10_crossedOf) (as := [az_r 34, az_i (((t : Nat) : Int))]) (rest := []) 60 rfl rfl ⟨rfl, rfl⟩ (by omega) (zs_X10_crossedOf (s := s) (t := t) (by omega) hS hI hh (by omega)) ?_
    refine az_to 0 (pc2 := 60) (lv2 := [some (az_r 34), some (az_i (1)), some (az_i (((t : Nat) : Int))), some (az_i (((u : Nat) : Int))), some (az_i ((zT S t 1 - zT S u 1))), none]) (st2 := [az_i (zcw S t)]) (s2 := s) rfl ?_
    refine az_to 2 (pc2 := 62) (lv2 := [some (az_r 34), some (az_i (1)), some (az_i (((t : Nat) : Int))), some (az_i (((u : Nat) : Int))), some (az_i ((zT S t 1 - zT S u 1))), none]) (st2 := [az_i (((u : Nat) : Int)), az_r 34, az_i (zcw S t)]) (s2 := s) rfl ?_
    refine az_clv (v := some (az_i (zcw S u))) (t := s) (m2 := am_m_X10_crossedOf) (as := [az_r 34, az_i (((u : Nat) : Int))]) (rest := [az_i (zcw S t)]) 65 rfl rfl ⟨rfl, rfl⟩ (by omega) (zs_X10_crossedOf (s := s) (t := u) (by omega) hS hI hh (by omega)) ?_
    refine az_to 0 (pc2 := 65) (lv2 := [some (az_r 34), some (az_i (1)), some (az_i (((t : Nat) : Int))), some (az_i (((u : Nat) : Int))), some (az_i ((zT S t 1 - zT S u 1))), none]) (st2 := [az_i (zcw S u), az_i (zcw S t)]) (s2 := s) rfl ?_
    refine az_to 4 (pc2 := 86) (lv2 := [some (az_r 34), some (az_i (1)), some (az_i (((t : Nat) : Int))), some (az_i (((u : Nat) : Int))), some (az_i ((zT S t 1 - zT S u 1))), some (az_i ((zcw S t - zcw S u)))]) (st2 := [az_i ((zcw S t - zcw S u))]) (s2 := s) rfl ?_
    refine az_ifc 102 89 rfl (by decide) (by first | assumption | exact ⟨by omega, by omega⟩) (fun h2 => ?_) (fun h2 => ?_)
    · have h2 : (zcw S t - zcw S u) = 0 := h2
      refine az_to 2 (pc2 := 104) (lv2 := [some (az_r 34), some (az_i (1)), some (az_i (((t : Nat) : Int))), some (az_i (((u : Nat) : Int))), some (az_i ((zT S t 1 - zT S u 1))), some (az_i ((zcw S t - zcw S u)))]) (st2 := [az_i (((u : Nat) : Int)), az_i (((t : Nat) : Int))]) (s2 := s) rfl ?_
      refine az_if2 111 107 rfl (by decide) (by first | assumption | exact ⟨by omega, by omega⟩) (by first | assumption | exact ⟨by omega, by omega⟩) (fun h3 => ?_) (fun h3 => ?_)
      · have h3 : ((u : Nat) : Int) ≤ ((t : Nat) : Int) := h3
        refine az_to 1 (pc2 := 112) (lv2 := [some (az_r 34), some (az_i (1)), some (az_i (((t : Nat) : Int))), some (az_i (((u : Nat) : Int))), some (az_i ((zT S t 1 - zT S u 1))), some (az_i ((zcw S t - zcw S u)))]) (st2 := [az_i (0)]) (s2 := s) rfl ?_
        refine az_retB rfl rfl (by first | decide | omega | exact Or.inl rfl | exact Or.inr rfl) ?_
        exact ⟨by rw [az_b0 (by unfold zric; first | (rw [if_pos (by omega)]; omega) | (rw [if_neg (by omega), if_pos (by omega)]; omega) | (rw [if_neg (by omega), if_neg (by omega)]; omega))], rfl⟩
      · have h3 : ¬ (((u : Nat) : Int) ≤ ((t : Nat) : Int)) := h3
        refine az_to 2 (pc2 := 112) (lv2 := [some (az_r 34), some (az_i (1)), some (az_i (((t : Nat) : Int))), some (az_i (((u : Nat) : Int))), some (az_i ((zT S t 1 - zT S u 1))), some (az_i ((zcw S t - zcw S u)))]) (st2 := [az_i (1)]) (s2 := s) rfl ?_
        refine az_retB rfl rfl (by first | decide | omega | exact Or.inl rfl | exact Or.inr rfl) ?_
        exact ⟨by rw [az_b1 (by unfold zric; first | (rw [if_pos (by omega)]; omega) | (rw [if_neg (by omega), if_pos (by omega)]; omega) | (rw [if_neg (by omega), if_neg (by omega)]; omega))], rfl⟩
    · have h2 : ¬ ((zcw S t - zcw S u) = 0) := h2
      refine az_to 1 (pc2 := 91) (lv2 := [some (az_r 34), some (az_i (1)), some (az_i (((t : Nat) : Int))), some (az_i (((u : Nat) : Int))), some (az_i ((zT S t 1 - zT S u 1))), some (az_i ((zcw S t - zcw S u)))]) (st2 := [az_i ((zcw S t - zcw S u))]) (s2 := s) rfl ?_
      refine az_ifc 98 94 rfl (by decide) (by first | assumption | exact ⟨by omega, by omega⟩) (fun h4 => ?_) (fun h4 => ?_)
      · have h4 : (zcw S t - zcw S u) ≤ 0 := h4
        refine az_to 2 (pc2 := 112) (lv2 := [some (az_r 34), some (az_i (1)), some (az_i (((t : Nat) : Int))), some (az_i (((u : Nat) : Int))), some (az_i ((zT S t 1 - zT S u 1))), some (az_i ((zcw S t - zcw S u)))]) (st2 := [az_i (0)]) (s2 := s) rfl ?_
        refine az_retB rfl rfl (by first | decide | omega | exact Or.inl rfl | exact Or.inr rfl) ?_
        exact ⟨by rw [az_b0 (by unfold zric; first | (rw [if_pos (by omega)]; omega) | (rw [if_neg (by omega), if_pos (by omega)]; omega) | (rw [if_neg (by omega), if_neg (by omega)]; omega))], rfl⟩
      · have h4 : ¬ ((zcw S t - zcw S u) ≤ 0) := h4
        refine az_to 2 (pc2 := 112) (lv2 := [some (az_r 34), some (az_i (1)), some (az_i (((t : Nat) : Int))), some (az_i (((u : Nat) : Int))), some (az_i ((zT S t 1 - zT S u 1))), some (az_i ((zcw S t - zcw S u)))]) (st2 := [az_i (1)]) (s2 := s) rfl ?_
        refine az_retB rfl rfl (by first | decide | omega | exact Or.inl rfl | exact Or.inr rfl) ?_
        exact ⟨by rw [az_b1 (by unfold zric; first | (rw [if_pos (by omega)]; omega) | (rw [if_neg (by omega), if_pos (by omega)]; omega) | (rw [if_neg (by omega), if_neg (by omega)]; omega))], rfl⟩
  · have h1 : ¬ ((zT S t 1 - zT S u 1) = 0) := h1
    refine az_to 1 (pc2 := 42) (lv2 := [some (az_r 34), some (az_i (1)), some (az_i (((t : Nat) : Int))), some (az_i (((u : Nat) : Int))), some (az_i ((zT S t 1 - zT S u 1))), none]) (st2 := [az_i ((zT S t 1 - zT S u 1))]) (s2 := s) rfl ?_
    refine az_ifc 49 45 rfl (by decide) (by first | assumption | exact ⟨by omega, by omega⟩) (fun h5 => ?_) (fun h5 => ?_)
    · have h5 : (zT S t 1 - zT S u 1) ≤ 0 := h5
      refine az_to 1 (pc2 := 50) (lv2 := [some (az_r 34), some (az_i (1)), some (az_i (((t : Nat) : Int))), some (az_i (((u : Nat) : Int))), some (az_i ((zT S t 1 - zT S u 1))), none]) (st2 := [az_i (0)]) (s2 := s) rfl ?_
      refine az_retB rfl rfl (by first | decide | omega | exact Or.inl rfl | exact Or.inr rfl) ?_
      exact ⟨by rw [az_b0 (by unfold zric; first | (rw [if_pos (by omega)]; omega) | (rw [if_neg (by omega), if_pos (by omega)]; omega) | (rw [if_neg (by omega), if_neg (by omega)]; omega))], rfl⟩
    · have h5 : ¬ ((zT S t 1 - zT S u 1) ≤ 0) := h5
      refine az_to 2 (pc2 := 50) (lv2 := [some (az_r 34), some (az_i (1)), some (az_i (((t : Nat) : Int))), some (az_i (((u : Nat) : Int))), some (az_i ((zT S t 1 - zT S u 1))), none]) (st2 := [az_i (1)]) (s2 := s) rfl ?_
      refine az_retB rfl rfl (by first | decide | omega | exact Or.inl rfl | exact Or.inr rfl) ?_
      exact ⟨by rw [az_b1 (by unfold zric; first | (rw [if_pos (by omega)]; omega) | (rw [if_neg (by omega), if_pos (by omega)]; omega) | (rw [if_neg (by omega), if_neg (by omega)]; omega))], rfl⟩
set_option maxRecDepth 100000 in
set_option maxHeartbeats 800000 in
theorem zs_X10_isAhead_0 {d : Nat} {s : az_S} (hd : 2 ≤ d) {S : zR} {h : Nat} (hS : s 35 = S) (hI : zInv S h) (hh : h ≤ 10000) {t u : Nat} (ht : t < zn S 2) (hu : u < zn S 2) : az_R d am_m_X10_isAhead 0 (az_ini (am_mL am_m_X10_isAhead) [az_r 34, az_i (0), az_i (((t : Nat) : Int)), az_i (((u : Nat) : Int))]) [] (s) (az_ret (some (az_i (az_b (ztir S t u)))) (s)) := by
  have hz := zI_h hI hh
  have hs0 : s 35 0 = ((zn S 0 : Nat) : Int) := by rw [hS, hz.2.1.1]
  have hs1 : s 35 1 = ((zn S 1 : Nat) : Int) := by rw [hS, hz.2.1.2.1]
  have hs2 : s 35 2 = ((zn S 2 : Nat) : Int) := by rw [hS, hz.2.1.2.2]
  have hs3 : s 35 3 = S 3 := by rw [hS]
  have hs5 : s 35 5 = S 5 := by rw [hS]
  have hzt := zI_g hI hh (g := t) (by omega)
  have hzu := zI_g hI hh (g := u) (by omega)
  refine az_to 0 (pc2 := 0) (lv2 := [some (az_r 34), some (az_i (0)), some (az_i (((t : Nat) : Int))), some (az_i (((u : Nat) : Int))), none, none]) (st2 := []) (s2 := s) rfl ?_
  refine az_to 1 (pc2 := 1) (lv2 := [some (az_r 34), some (az_i (0)), some (az_i (((t : Nat) : Int))), some (az_i (((u : Nat) : Int))), none, none]) (st2 := [az_i (0)]) (s2 := s) rfl ?_
  refine az_ifc 20 4 rfl (by decide) ⟨by decide, by decide⟩ (fun _ => ?_) (fun h => absurd (show az_cnd _ _ _ by unfold az_cnd; decide) h)
  refine az_to 3 (pc2 := 23) (lv2 := [some (az_r 34), some (az_i (0)), some (az_i (((t : Nat) : Int))), some (az_i (((u : Nat) : Int))), none, none]) (st2 := [az_i (3), az_i (((t : Nat) : Int)), az_r 34]) (s2 := s) rfl ?_
  refine az_clv (v := some (az_i (zG S t 3))) (t := s) (m2 := am_m_X10_ofGoat) (as := [az_r 34, az_i (((t : Nat) : Int)), az_i (3)]) (rest := []) 26 rfl rfl ⟨rfl, rfl⟩ (by omega) (zs_X10_ofGoat (s := s) (g := t) (k := 3) (by omega) hS (by omega) (by omega)) ?_
  refine az_to 0 (pc2 := 26) (lv2 := [some (az_r 34), some (az_i (0)), some (az_i (((t : Nat) : Int))), some (az_i (((u : Nat) : Int))), none, none]) (st2 := [az_i (zG S t 3)]) (s2 := s) rfl ?_
  refine az_to 3 (pc2 := 29) (lv2 := [some (az_r 34), some (az_i (0)), some (az_i (((t : Nat) : Int))), some (az_i (((u : Nat) : Int))), none, none]) (st2 := [az_i (3), az_i (((u : Nat) : Int)), az_r 34, az_i (zG S t 3)]) (s2 := s) rfl ?_
  refine az_clv (v := some (az_i (zG S u 3))) (t := s) (m2 := am_m_X10_ofGoat) (as := [az_r 34, az_i (((u : Nat) : Int)), az_i (3)]) (rest := [az_i (zG S t 3)]) 32 rfl rfl ⟨rfl, rfl⟩ (by omega) (zs_X10_ofGoat (s := s) (g := u) (k := 3) (by omega) hS (by omega) (by omega)) ?_
  refine az_to 0 (pc2 := 32) (lv2 := [some (az_r 34), some (az_i (0)), some (az_i (((t : Nat) : Int))), some (az_i (((u : Nat) : Int))), none, none]) (st2 := [az_i (zG S u 3), az_i (zG S t 3)]) (s2 := s) rfl ?_
  refine az_to 3 (pc2 := 37) (lv2 := [some (az_r 34), some (az_i (0)), some (az_i (((t : Nat) : Int))), some (az_i (((u : Nat) : Int))), some (az_i ((zG S t 3 - zG S u 3))), none]) (st2 := [az_i ((zG S t 3 - zG S u 3))]) (s2 := s) rfl ?_
  refine az_ifc 51 40 rfl (by decide) (by first | assumption | exact ⟨by omega, by omega⟩) (fun h1 => ?_) (fun h1 => ?_)
  · have h1 : (zG S t 3 - zG S u 3) = 0 := h1
    refine az_to 1 (pc2 := 52) (lv2 := [some (az_r 34), some (az_i (0)), some (az_i (((t : Nat) : Int))), some (az_i (((u : Nat) : Int))), some (az_i ((zG S t 3 - zG S u 3))), none]) (st2 := [az_i (0)]) (s2 := s) rfl ?_
    refine az_ifc 69 55 rfl (by decide) ⟨by decide, by decide⟩ (fun _ => ?_) (fun h => absurd (show az_cnd _ _ _ by unfold az_cnd; decide) h)
    refine az_to 3 (pc2 := 72) (lv2 := [some (az_r 34), some (az_i (0)), some (az_i (((t : Nat) : Int))), some (az_i (((u : Nat) : Int))), some (az_i ((zG S t 3 - zG S u 3))), none]) (st2 := [az_i (1), az_i (((t : Nat) : Int)), az_r 34]) (s2 := s) rfl ?_
    refine az_clv (v := some (az_i (zG S t 1))) (t := s) (m2 := am_m_X10_ofGoat) (as := [az_r 34, az_i (((t : Nat) : Int)), az_i (1)]) (rest := []) 75 rfl rfl ⟨rfl, rfl⟩ (by omega) (zs_X10_ofGoat (s := s) (g := t) (k := 1) (by omega) hS (by omega) (by omega)) ?_
    refine az_to 0 (pc2 := 75) (lv2 := [some (az_r 34), some (az_i (0)), some (az_i (((t : Nat) : Int))), some (az_i (((u : Nat) : Int))), some (az_i ((zG S t 3 - zG S u 3))), none]) (st2 := [az_i (zG S t 1)]) (s2 := s) rfl ?_
    refine az_to 3 (pc2 := 78) (lv2 := [some (az_r 34), some (az_i (0)), some (az_i (((t : Nat) : Int))), some (az_i (((u : Nat) : Int))), some (az_i ((zG S t 3 - zG S u 3))), none]) (st2 := [az_i (1), az_i (((u : Nat) : Int)), az_r 34, az_i (zG S t 1)]) (s2 := s) rfl ?_
    refine az_clv (v := some (az_i (zG S u 1))) (t := s) (m2 := am_m_X10_ofGoat) (as := [az_r 34, az_i (((u : Nat) : Int)), az_i (1)]) (rest := [az_i (zG S t 1)]) 81 rfl rfl ⟨rfl, rfl⟩ (by omega) (zs_X10_ofGoat (s := s) (g := u) (k := 1) (by omega) hS (by omega) (by omega)) ?_
    refine az_to 0 (pc2 := 81) (lv2 := [some (az_r 34), some (az_i (0)), some (az_i (((t : Nat) : Int))), some (az_i (((u : Nat) : Int))), some (az_i ((zG S t 3 - zG S u 3))), none]) (st2 := [az_i (zG S u 1), az_i (zG S t 1)]) (s2 := s) rfl ?_
    refine az_to 3 (pc2 := 86) (lv2 := [some (az_r 34), some (az_i (0)), some (az_i (((t : Nat) : Int))), some (az_i (((u : Nat) : Int))), some (az_i ((zG S t 3 - zG S u 3))), some (az_i ((zG S t 1 - zG S u 1)))]) (st2 := [az_i ((zG S t 1 - zG S u 1))]) (s2 := s) rfl ?_
    refine az_ifc 102 89 rfl (by decide) (by first | assumption | exact ⟨by omega, by omega⟩) (fun h2 => ?_) (fun h2 => ?_)
    · have h2 : (zG S t 1 - zG S u 1) = 0 := h2
      refine az_to 2 (pc2 := 104) (lv2 := [some (az_r 34), some (az_i (0)), some (az_i (((t : Nat) : Int))), some (az_i (((u : Nat) : Int))), some (az_i ((zG S t 3 - zG S u 3))), some (az_i ((zG S t 1 - zG S u 1)))]) (st2 := [az_i (((u : Nat) : Int)), az_i (((t : Nat) : Int))]) (s2 := s) rfl ?_
      refine az_if2 111 107 rfl (by decide) (by first | assumption | exact ⟨by omega, by omega⟩) (by first | assumption | exact ⟨by omega, by omega⟩) (fun h3 => ?_) (fun h3 => ?_)
      · have h3 : ((u : Nat) : Int) ≤ ((t : Nat) : Int) := h3
        refine az_to 1 (pc2 := 112) (lv2 := [some (az_r 34), some (az_i (0)), some (az_i (((t : Nat) : Int))), some (az_i (((u : Nat) : Int))), some (az_i ((zG S t 3 - zG S u 3))), some (az_i ((zG S t 1 - zG S u 1)))]) (st2 := [az_i (0)]) (s2 := s) rfl ?_
        refine az_retB rfl rfl (by first | decide | omega | exact Or.inl rfl | exact Or.inr rfl) ?_
        exact ⟨by rw [az_b0 (by unfold ztir; first | (rw [if_pos (by omega)]; omega) | (rw [if_neg (by omega), if_pos (by omega)]; omega) | (rw [if_neg (by omega), if_neg (by omega)]; omega))], rfl⟩
      · have h3 : ¬ (((u : Nat) : Int) ≤ ((t : Nat) : Int)) := h3
        refine az_to 2 (pc2 := 112) (lv2 := [some (az_r 34), some (az_i (0)), some (az_i (((t : Nat) : Int))), some (az_i (((u : Nat) : Int))), some (az_i ((zG S t 3 - zG S u 3))), some (az_i ((zG S t 1 - zG S u 1)))]) (st2 := [az_i (1)]) (s2 := s) rfl ?_
        refine az_retB rfl rfl (by first | decide | omega | exact Or.inl rfl | exact Or.inr rfl) ?_
        exact ⟨by rw [az_b1 (by unfold ztir; first | (rw [if_pos (by omega)]; omega) | (rw [if_neg (by omega), if_pos (by omega)]; omega) | (rw [if_neg (by omega), if_neg (by omega)]; omega))], rfl⟩
    · have h2 : ¬ ((zG S t 1 - zG S u 1) = 0) := h2
      refine az_to 1 (pc2 := 91) (lv2 := [some (az_r 34), some (az_i (0)), some (az_i (((t : Nat) : Int))), some (az_i (((u : Nat) : Int))), some (az_i ((zG S t 3 - zG S u 3))), some (az_i ((zG S t 1 - zG S u 1)))]) (st2 := [az_i ((zG S t 1 - zG S u 1))]) (s2 := s) rfl ?_
      refine az_ifc 98 94 rfl (by decide) (by first | assumption | exact ⟨by omega, by omega⟩) (fun h4 => ?_) (fun h4 => ?_)
      · have h4 : (zG S t 1 - zG S u 1) ≤ 0 := h4
        refine az_to 2 (pc2 := 112) (lv2 := [some (az_r 34), some (az_i (0)), some (az_i (((t : Nat) : Int))), some (az_i (((u : Nat) : Int))), some (az_i ((zG S t 3 - zG S u 3))), some (az_i ((zG S t 1 - zG S u 1)))]) (st2 := [az_i (0)]) (s2 := s) rfl ?_
        refine az_retB rfl rfl (by first | decide | omega | exact Or.inl rfl | exact Or.inr rfl) ?_
        exact ⟨by rw [az_b0 (by unfold ztir; first | (rw [if_pos (by omega)]; omega) | (rw [if_neg (by omega), if_pos (by omega)]; omega) | (rw [if_neg (by omega), if_neg (by omega)]; omega))], rfl⟩
      · have h4 : ¬ ((zG S t 1 - zG S u 1) ≤ 0) := h4
        refine az_to 2 (pc2 := 112) (lv2 := [some (az_r 34), some (az_i (0)), some (az_i (((t : Nat) : Int))), some (az_i (((u : Nat) : Int))), some (az_i ((zG S t 3 - zG S u 3))), some (az_i ((zG S t 1 - zG S u 1)))]) (st2 := [az_i (1)]) (s2 := s) rfl ?_
        refine az_retB rfl rfl (by first | decide | omega | exact Or.inl rfl | exact Or.inr rfl) ?_
        exact ⟨by rw [az_b1 (by unfold ztir; first | (rw [if_pos (by omega)]; omega) | (rw [if_neg (by omega), if_pos (by omega)]; omega) | (rw [if_neg (by omega), if_neg (by omega)]; omega))], rfl⟩
  · have h1 : ¬ ((zG S t 3 - zG S u 3) = 0) := h1
    refine az_to 1 (pc2 := 42) (lv2 := [some (az_r 34), some (az_i (0)), some (az_i (((t : Nat) : Int))), some (az_i (((u : Nat) : Int))), some (az_i ((zG S t 3 - zG S u 3))), none]) (st2 := [az_i ((zG S t 3 - zG S u 3))]) (s2 := s) rfl ?_
    refine az_ifc 49 45 rfl (by decide) (by first | assumption | exact ⟨by omega, by omega⟩) (fun h5 => ?_) (fun h5 => ?_)
    · have h5 : (zG S t 3 - zG S u 3) ≤ 0 := h5
      refine az_to 1 (pc2 := 50) (lv2 := [some (az_r 34), some (az_i (0)), some (az_i (((t : Nat) : Int))), some (az_i (((u : Nat) : Int))), some (az_i ((zG S t 3 - zG S u 3))), none]) (st2 := [az_i (0)]) (s2 := s) rfl ?_
      refine az_retB rfl rfl (by first | decide | omega | exact Or.inl rfl | exact Or.inr rfl) ?_
      exact ⟨by rw [az_b0 (by unfold ztir; first | (rw [if_pos (by omega)]; omega) | (rw [if_neg (by omega), if_pos (by omega)]; omega) | (rw [if_neg (by omega), if_neg (by omega)]; omega))], rfl⟩
    · have h5 : ¬ ((zG S t 3 - zG S u 3) ≤ 0) := h5
      refine az_to 2 (pc2 := 50) (lv2 := [some (az_r 34), some (az_i (0)), some (az_i (((t : Nat) : Int))), some (az_i (((u : Nat) : Int))), some (az_i ((zG S t 3 - zG S u 3))), none]) (st2 := [az_i (1)]) (s2 := s) rfl ?_
      refine az_retB rfl rfl (by first | decide | omega | exact Or.inl rfl | exact Or.inr rfl) ?_
      exact ⟨by rw [az_b1 (by unfold ztir; first | (rw [if_pos (by omega)]; omega) | (rw [if_neg (by omega), if_pos (by omega)]; omega) | (rw [if_neg (by omega), if_neg (by omega)]; omega))], rfl⟩
set_option maxRecDepth 100000 in
set_option maxHeartbeats 800000 in
theorem zs_X10_ranked_in1_L35 {d : Nat} {s : az_S} (hd : 3 ≤ d) {S : zR} {h : Nat} (hS : s 35 = S) (hI : zInv S h) (hh : h ≤ 10000) {zp : Int} {k : Nat} (hk : k < zn S 1) {Q : az_O → az_S → Prop} (K : ∀ x : Option az_V, az_R d am_m_X10_ranked 76 [some (az_r 34), some (az_i 1), some (az_i zp), some (az_i (((zn S 1) : Nat) : Int)), some (az_i ((k : Nat) : Int)), some (az_i (zpt S k)), x] [] s Q) : ∀ (mq : Nat) (o : Nat), mq = zn S 1 - o → (o ≤ zn S 1) → az_R d am_m_X10_ranked 35 [some (az_r 34), some (az_i (1)), some (az_i (zp)), some (az_i ((((zn S 1) : Nat) : Int))), some (az_i (((k : Nat) : Int))), some (az_i (zs o (fun u => az_b (zric S u k)))), some (az_i (((o : Nat) : Int)))] [] (s) (Q) := by
  intro mq
  induction mq using Nat.strongRecOn with
  | _ mq ih =>
    intro o hm g0
    have hz := zI_h hI hh
    have hs0 : s 35 0 = ((zn S 0 : Nat) : Int) := by rw [hS, hz.2.1.1]
    have hs1 : s 35 1 = ((zn S 1 : Nat) : Int) := by rw [hS, hz.2.1.2.1]
    have hs2 : s 35 2 = ((zn S 2 : Nat) : Int) := by rw [hS, hz.2.1.2.2]
    have hs3 : s 35 3 = S 3 := by rw [hS]
    have hs5 : s 35 5 = S 5 := by rw [hS]
    refine az_to 2 (pc2 := 38) (lv2 := [some (az_r 34), some (az_i (1)), some (az_i (zp)), some (az_i ((((zn S 1) : Nat) : Int))), some (az_i (((k : Nat) : Int))), some (az_i (zs o (fun u => az_b (zric S u k)))), some (az_i (((o : Nat) : Int)))]) (st2 := [az_i ((((zn S 1) : Nat) : Int)), az_i (((o : Nat) : Int))]) (s2 := s) rfl ?_
    refine az_if2 76 41 rfl (by decide) (by first | assumption | exact ⟨by omega, by omega⟩) (by first | assumption | exact ⟨by omega, by omega⟩) (fun h1 => ?_) (fun h1 => ?_)
    · have h1 : (((zn S 1) : Nat) : Int) ≤ ((o : Nat) : Int) := h1
      obtain rfl : o = zn S 1 := by omega
      exact K _
    · have h1 : ¬ ((((zn S 1) : Nat) : Int) ≤ ((o : Nat) : Int)) := h1
      refine az_to 3 (pc2 := 47) (lv2 := [some (az_r 34), some (az_i (1)), some (az_i (zp)), some (az_i ((((zn S 1) : Nat) : Int))), some (az_i (((k : Nat) : Int))), some (az_i (zs o (fun u => az_b (zric S u k)))), some (az_i (((o : Nat) : Int)))]) (st2 := [az_i (((k : Nat) : Int)), az_i (((o : Nat) : Int)), az_i (zs o (fun u => az_b (zric S u k)))]) (s2 := s) rfl ?_
      refine az_if2 66 50 rfl (by decide) (by first | assumption | exact ⟨by omega, by omega⟩) (by first | assumption | exact ⟨by omega, by omega⟩) (fun h2 => ?_) (fun h2 => ?_)
      · have h2 : ((o : Nat) : Int) = ((k : Nat) : Int) := h2
        refine az_to 5 (pc2 := 35) (lv2 := [some (az_r 34), some (az_i (1)), some (az_i (zp)), some (az_i ((((zn S 1) : Nat) : Int))), some (az_i (((k : Nat) : Int))), some (az_i ((zs o (fun u => az_b (zric S u k)) + 0))), some (az_i ((((o : Nat) : Int) + 1)))]) (st2 := []) (s2 := s) rfl ?_
        have e9 : (zs o (fun u => az_b (zric S u k)) + 0) = zs (o + 1) (fun u => az_b (zric S u k)) := by
          show _ = zs o _ + _
          dsimp only
          first | (rw [az_b1 (by assumption)]) | (rw [az_b0 (by assumption)]) | (rw [show o = k from by omega, az_b0 zric_irr])
        rw [e9]
        exact ih _ (by omega) (o + 1) rfl (by omega)
      · have h2 : ¬ (((o : Nat) : Int) = ((k : Nat) : Int)) := h2
        refine az_to 4 (pc2 := 56) (lv2 := [some (az_r 34), some (az_i (1)), some (az_i (zp)), some (az_i ((((zn S 1) : Nat) : Int))), some (az_i (((k : Nat) : Int))), some (az_i (zs o (fun u => az_b (zric S u k)))), some (az_i (((o : Nat) : Int)))]) (st2 := [az_i (((k : Nat) : Int)), az_i (((o : Nat) : Int)), az_i (1), az_r 34, az_i (zs o (fun u => az_b (zric S u k)))]) (s2 := s) rfl ?_
        refine az_clv (v := some (az_i (az_b (zric S o k)))) (t := s) (m2 := am_m_X10_isAhead) (as := [az_r 34, az_i (1), az_i (((o : Nat) : Int)), az_i (((k : Nat) : Int))]) (rest := [az_i (zs o (fun u => az_b (zric S u k)))]) 59 rfl rfl ⟨rfl, rfl⟩ (by omega) (zs_X10_isAhead_1 (s := s) (t := o) (u := k) (by omega) hS hI hh (by omega) (by omega)) ?_
        refine az_to 0 (pc2 := 59) (lv2 := [some (az_r 34), some (az_i (1)), some (az_i (zp)), some (az_i ((((zn S 1) : Nat) : Int))), some (az_i (((k : Nat) : Int))), some (az_i (zs o (fun u => az_b (zric S u k)))), some (az_i (((o : Nat) : Int)))]) (st2 := [az_i (az_b (zric S o k)), az_i (zs o (fun u => az_b (zric S u k)))]) (s2 := s) rfl ?_
        refine az_ifbe 66 62 rfl (by decide) (fun h3 => ?_) (fun h3 => ?_)
        · have h3 : ¬ (zric S o k) := h3
          refine az_to 5 (pc2 := 35) (lv2 := [some (az_r 34), some (az_i (1)), some (az_i (zp)), some (az_i ((((zn S 1) : Nat) : Int))), some (az_i (((k : Nat) : Int))), some (az_i ((zs o (fun u => az_b (zric S u k)) + 0))), some (az_i ((((o : Nat) : Int) + 1)))]) (st2 := []) (s2 := s) rfl ?_
          have e9 : (zs o (fun u => az_b (zric S u k)) + 0) = zs (o + 1) (fun u => az_b (zric S u k)) := by
            show _ = zs o _ + _
            dsimp only
            first | (rw [az_b1 (by assumption)]) | (rw [az_b0 (by assumption)]) | (rw [show o = k from by omega, az_b0 zric_irr])
          rw [e9]
          exact ih _ (by omega) (o + 1) rfl (by omega)
        · have h3 : zric S o k := h3
          refine az_to 6 (pc2 := 35) (lv2 := [some (az_r 34), some (az_i (1)), some (az_i (zp)), some (az_i ((((zn S 1) : Nat) : Int))), some (az_i (((k : Nat) : Int))), some (az_i ((zs o (fun u => az_b (zric S u k)) + 1))), some (az_i ((((o : Nat) : Int) + 1)))]) (st2 := []) (s2 := s) rfl ?_
          have e9 : (zs o (fun u => az_b (zric S u k)) + 1) = zs (o + 1) (fun u => az_b (zric S u k)) := by
            show _ = zs o _ + _
            dsimp only
            first | (rw [az_b1 (by assumption)]) | (rw [az_b0 (by assumption)]) | (rw [show o = k from by omega, az_b0 zric_irr])
          rw [e9]
          exact ih _ (by omega) (o + 1) rfl (by omega)
set_option maxRecDepth 100000 in
set_option maxHeartbeats 800000 in
theorem zs_X10_ranked_1_L23 {d : Nat} {s : az_S} (hd : 3 ≤ d) {S : zR} {h : Nat} (hS : s 35 = S) (hI : zInv S h) (hh : h ≤ 10000) {zp : Int} (h_zp : az_in zp) : ∀ (mq : Nat) (k : Nat) (x5 : Option az_V) (x6 : Option az_V), mq = zn S 1 - k → (k ≤ zn S 1) → (∀ i, i < k → ¬ zpt S i = zp) → az_R d am_m_X10_ranked 23 [some (az_r 34), some (az_i (1)), some (az_i (zp)), some (az_i ((((zn S 1) : Nat) : Int))), some (az_i (((k : Nat) : Int))), x5, x6] [] (s) (zmq s (zq_richest S zp)) := by
  intro mq
  induction mq using Nat.strongRecOn with
  | _ mq ih =>
    intro k x5 x6 hm g0 g1
    have hz := zI_h hI hh
    have hs0 : s 35 0 = ((zn S 0 : Nat) : Int) := by rw [hS, hz.2.1.1]
    have hs1 : s 35 1 = ((zn S 1 : Nat) : Int) := by rw [hS, hz.2.1.2.1]
    have hs2 : s 35 2 = ((zn S 2 : Nat) : Int) := by rw [hS, hz.2.1.2.2]
    have hs3 : s 35 3 = S 3 := by rw [hS]
    have hs5 : s 35 5 = S 5 := by rw [hS]
    refine az_to 2 (pc2 := 26) (lv2 := [some (az_r 34), some (az_i (1)), some (az_i (zp)), some (az_i ((((zn S 1) : Nat) : Int))), some (az_i (((k : Nat) : Int))), x5, x6]) (st2 := [az_i ((((zn S 1) : Nat) : Int)), az_i (((k : Nat) : Int))]) (s2 := s) rfl ?_
    refine az_if2 96 29 rfl (by decide) (by first | assumption | exact ⟨by omega, by omega⟩) (by first | assumption | exact ⟨by omega, by omega⟩) (fun h1 => ?_) (fun h1 => ?_)
    · have h1 : (((zn S 1) : Nat) : Int) ≤ ((k : Nat) : Int) := h1
      refine az_to 4 (pc2 := 102) (lv2 := [some (az_r 34), some (az_i (1)), some (az_i (zp)), some (az_i ((((zn S 1) : Nat) : Int))), some (az_i (((k : Nat) : Int))), x5, x6]) (st2 := [az_i (0)]) (s2 := am_up s 34 6 (1)) rfl ?_
      refine az_retI rfl rfl ?_
      have e : zf (zn S 1) (fun t => decide (zpt S t = zp)) = -1 := zf_none _ _ (fun i hi => by rw [decide_eq_false_iff_not]; exact g1 i (by omega))
      have e2 : zq_richest S zp = (1, 0) := by unfold zq_richest; rw [e]; rfl
      rw [e2]
      exact ⟨rfl, rfl, fun j hj => by simp [am_up, hj], fun i h1 h2 => by funext j; simp [am_up, h1]⟩
    · have h1 : ¬ ((((zn S 1) : Nat) : Int) ≤ ((k : Nat) : Int)) := h1
      refine az_to 4 (pc2 := 35) (lv2 := [some (az_r 34), some (az_i (1)), some (az_i (zp)), some (az_i ((((zn S 1) : Nat) : Int))), some (az_i (((k : Nat) : Int))), some (az_i (0)), some (az_i (0))]) (st2 := []) (s2 := s) rfl ?_
      refine zs_X10_ranked_in1_L35 (zp := zp) (k := k) (by omega) hS hI hh (by omega) (fun x => ?_) _ 0 rfl (by omega)
      have hpr := zpt_r S k
      refine az_to 2 (pc2 := 79) (lv2 := [some (az_r 34), some (az_i (1)), some (az_i (zp)), some (az_i ((((zn S 1) : Nat) : Int))), some (az_i (((k : Nat) : Int))), some (az_i (zpt S k)), x]) (st2 := [az_i (zp), az_i (zpt S k)]) (s2 := s) rfl ?_
      refine az_if2 90 82 rfl (by decide) (by first | assumption | exact ⟨by omega, by omega⟩) (by first | assumption | exact ⟨by omega, by omega⟩) (fun h2 => ?_) (fun h2 => ?_)
      · have h2 : ¬ zpt S k = zp := h2
        refine az_to 2 (pc2 := 23) (lv2 := [some (az_r 34), some (az_i (1)), some (az_i (zp)), some (az_i ((((zn S 1) : Nat) : Int))), some (az_i ((((k : Nat) : Int) + 1))), some (az_i (zpt S k)), x]) (st2 := []) (s2 := s) rfl ?_
        exact ih _ (by omega) (k + 1) _ _ rfl (by omega) (fun i hi => by
          by_cases q : i = k
          · rw [q]; assumption
          · exact g1 i (by omega))
      · have h2 : zpt S k = zp := Decidable.not_not.mp h2
        refine az_to 4 (pc2 := 89) (lv2 := [some (az_r 34), some (az_i (1)), some (az_i (zp)), some (az_i ((((zn S 1) : Nat) : Int))), some (az_i (((k : Nat) : Int))), some (az_i (zpt S k)), x]) (st2 := [az_i (((k : Nat) : Int))]) (s2 := am_up s 34 6 (0)) rfl ?_
        refine az_retI rfl rfl ?_
        have e : zf (zn S 1) (fun t => decide (zpt S t = zp)) = ((k : Nat) : Int) := zf_first _ _ k (by omega) (by rw [decide_eq_true_eq]; assumption) (fun i hi => by rw [decide_eq_false_iff_not]; exact g1 i hi)
        have e2 : zq_richest S zp = (0, ((k : Nat) : Int)) := by unfold zq_richest; rw [e, if_pos (by omega)]
        rw [e2]
        exact ⟨rfl, rfl, fun j hj => by simp [am_up, hj], fun i h1 h2 => by funext j; simp [am_up, h1]⟩
set_option maxRecDepth 100000 in
set_option maxHeartbeats 800000 in
theorem zs_X10_ranked_1 {d : Nat} {s : az_S} (hd : 3 ≤ d) {S : zR} {h : Nat} (hS : s 35 = S) (hI : zInv S h) (hh : h ≤ 10000) {zp : Int} (h_zp : az_in zp) : az_R d am_m_X10_ranked 0 (az_ini (am_mL am_m_X10_ranked) [az_r 34, az_i (1), az_i (zp)]) [] (s) (zmq s (zq_richest S zp)) := by
  have hz := zI_h hI hh
  have hs0 : s 35 0 = ((zn S 0 : Nat) : Int) := by rw [hS, hz.2.1.1]
  have hs1 : s 35 1 = ((zn S 1 : Nat) : Int) := by rw [hS, hz.2.1.2.1]
  have hs2 : s 35 2 = ((zn S 2 : Nat) : Int) := by rw [hS, hz.2.1.2.2]
  have hs3 : s 35 3 = S 3 := by rw [hS]
  have hs5 : s 35 5 = S 5 := by rw [hS]
  refine az_to 0 (pc2 := 0) (lv2 := [some (az_r 34), some (az_i (1)), some (az_i (zp)), none, none, none, none]) (st2 := []) (s2 := s) rfl ?_
  refine az_to 1 (pc2 := 1) (lv2 := [some (az_r 34), some (az_i (1)), some (az_i (zp)), none, none, none, none]) (st2 := [az_i (1)]) (s2 := s) rfl ?_
  refine az_ifc 13 4 rfl (by decide) ⟨by decide, by decide⟩ (fun h => absurd h (by unfold az_cnd; decide)) (fun _ => ?_)
  refine az_to 3 (pc2 := 9) (lv2 := [some (az_r 34), some (az_i (1)), some (az_i (zp)), none, none, none, none]) (st2 := [az_i (1), az_r 35]) (s2 := s) rfl ?_
  refine az_ld_i 10 rfl rfl (by constructor <;> omega) ⟨by decide, rfl⟩ ?_
  refine az_to 0 (pc2 := 10) (lv2 := [some (az_r 34), some (az_i (1)), some (az_i (zp)), none, none, none, none]) (st2 := [az_i (s 35 1)]) (s2 := s) rfl ?_
  refine az_to 0 (pc2 := 10) (lv2 := [some (az_r 34), some (az_i (1)), some (az_i (zp)), none, none, none, none]) (st2 := [az_i (((zn S 1 : Nat) : Int))]) (s2 := s) (by rw [show s 35 1 = ((zn S 1 : Nat) : Int) from hs1]; rfl) ?_
  refine az_to 4 (pc2 := 23) (lv2 := [some (az_r 34), some (az_i (1)), some (az_i (zp)), some (az_i (((zn S 1 : Nat) : Int))), some (az_i (0)), none, none]) (st2 := []) (s2 := s) rfl ?_
  exact zs_X10_ranked_1_L23 (by omega) hS hI hh h_zp _ 0 _ _ rfl (by omega) (fun i hi => absurd hi (by omega))
set_option maxRecDepth 100000 in
set_option maxHeartbeats 800000 in
theorem zs_X10_ranked_in0_L35 {d : Nat} {s : az_S} (hd : 3 ≤ d) {S : zR} {h : Nat} (hS : s 35 = S) (hI : zInv S h) (hh : h ≤ 10000) {zp : Int} {k : Nat} (hk : k < zn S 2) {Q : az_O → az_S → Prop} (K : ∀ x : Option az_V, az_R d am_m_X10_ranked 76 [some (az_r 34), some (az_i 0), some (az_i zp), some (az_i (((zn S 2) : Nat) : Int)), some (az_i ((k : Nat) : Int)), some (az_i (zpg S k)), x] [] s Q) : ∀ (mq : Nat) (o : Nat), mq = zn S 2 - o → (o ≤ zn S 2) → az_R d am_m_X10_ranked 35 [some (az_r 34), some (az_i (0)), some (az_i (zp)), some (az_i ((((zn S 2) : Nat) : Int))), some (az_i (((k : Nat) : Int))), some (az_i (zs o (fun u => az_b (ztir S u k)))), some (az_i (((o : Nat) : Int)))] [] (s) (Q) := by
  intro mq
  induction mq using Nat.strongRecOn with
  | _ mq ih =>
    intro o hm g0
    have hz := zI_h hI hh
    have hs0 : s 35 0 = ((zn S 0 : Nat) : Int) := by rw [hS, hz.2.1.1]
    have hs1 : s 35 1 = ((zn S 1 : Nat) : Int) := by rw [hS, hz.2.1.2.1]
    have hs2 : s 35 2 = ((zn S 2 : Nat) : Int) := by rw [hS, hz.2.1.2.2]
    have hs3 : s 35 3 = S 3 := by rw [hS]
    have hs5 : s 35 5 = S 5 := by rw [hS]
    refine az_to 2 (pc2 := 38) (lv2 := [some (az_r 34), some (az_i (0)), some (az_i (zp)), some (az_i ((((zn S 2) : Nat) : Int))), some (az_i (((k : Nat) : Int))), some (az_i (zs o (fun u => az_b (ztir S u k)))), some (az_i (((o : Nat) : Int)))]) (st2 := [az_i ((((zn S 2) : Nat) : Int)), az_i (((o : Nat) : Int))]) (s2 := s) rfl ?_
    refine az_if2 76 41 rfl (by decide) (by first | assumption | exact ⟨by omega, by omega⟩) (by first | assumption | exact ⟨by omega, by omega⟩) (fun h1 => ?_) (fun h1 => ?_)
    · have h1 : (((zn S 2) : Nat) : Int) ≤ ((o : Nat) : Int) := h1
      obtain rfl : o = zn S 2 := by omega
      exact K _
    · have h1 : ¬ ((((zn S 2) : Nat) : Int) ≤ ((o : Nat) : Int)) := h1
      refine az_to 3 (pc2 := 47) (lv2 := [some (az_r 34), some (az_i (0)), some (az_i (zp)), some (az_i ((((zn S 2) : Nat) : Int))), some (az_i (((k : Nat) : Int))), some (az_i (zs o (fun u => az_b (ztir S u k)))), some (az_i (((o : Nat) : Int)))]) (st2 := [az_i (((k : Nat) : Int)), az_i (((o : Nat) : Int)), az_i (zs o (fun u => az_b (ztir S u k)))]) (s2 := s) rfl ?_
      refine az_if2 66 50 rfl (by decide) (by first | assumption | exact ⟨by omega, by omega⟩) (by first | assumption | exact ⟨by omega, by omega⟩) (fun h2 => ?_) (fun h2 => ?_)
      · have h2 : ((o : Nat) : Int) = ((k : Nat) : Int) := h2
        refine az_to 5 (pc2 := 35) (lv2 := [some (az_r 34), some (az_i (0)), some (az_i (zp)), some (az_i ((((zn S 2) : Nat) : Int))), some (az_i (((k : Nat) : Int))), some (az_i ((zs o (fun u => az_b (ztir S u k)) + 0))), some (az_i ((((o : Nat) : Int) + 1)))]) (st2 := []) (s2 := s) rfl ?_
        have e9 : (zs o (fun u => az_b (ztir S u k)) + 0) = zs (o + 1) (fun u => az_b (ztir S u k)) := by
          show _ = zs o _ + _
          dsimp only
          first | (rw [az_b1 (by assumption)]) | (rw [az_b0 (by assumption)]) | (rw [show o = k from by omega, az_b0 ztir_irr])
        rw [e9]
        exact ih _ (by omega) (o + 1) rfl (by omega)
      · have h2 : ¬ (((o : Nat) : Int) = ((k : Nat) : Int)) := h2
        refine az_to 4 (pc2 := 56) (lv2 := [some (az_r 34), some (az_i (0)), some (az_i (zp)), some (az_i ((((zn S 2) : Nat) : Int))), some (az_i (((k : Nat) : Int))), some (az_i (zs o (fun u => az_b (ztir S u k)))), some (az_i (((o : Nat) : Int)))]) (st2 := [az_i (((k : Nat) : Int)), az_i (((o : Nat) : Int)), az_i (0), az_r 34, az_i (zs o (fun u => az_b (ztir S u k)))]) (s2 := s) rfl ?_
        refine az_clv (v := some (az_i (az_b (ztir S o k)))) (t := s) (m2 := am_m_X10_isAhead) (as := [az_r 34, az_i (0), az_i (((o : Nat) : Int)), az_i (((k : Nat) : Int))]) (rest := [az_i (zs o (fun u => az_b (ztir S u k)))]) 59 rfl rfl ⟨rfl, rfl⟩ (by omega) (zs_X10_isAhead_0 (s := s) (t := o) (u := k) (by omega) hS hI hh (by omega) (by omega)) ?_
        refine az_to 0 (pc2 := 59) (lv2 := [some (az_r 34), some (az_i (0)), some (az_i (zp)), some (az_i ((((zn S 2) : Nat) : Int))), some (az_i (((k : Nat) : Int))), some (az_i (zs o (fun u => az_b (ztir S u k)))), some (az_i (((o : Nat) : Int)))]) (st2 := [az_i (az_b (ztir S o k)), az_i (zs o (fun u => az_b (ztir S u k)))]) (s2 := s) rfl ?_
        refine az_ifbe 66 62 rfl (by decide) (fun h3 => ?_) (fun h3 => ?_)
        · have h3 : ¬ (ztir S o k) := h3
          refine az_to 5 (pc2 := 35) (lv2 := [some (az_r 34), some (az_i (0)), some (az_i (zp)), some (az_i ((((zn S 2) : Nat) : Int))), some (az_i (((k : Nat) : Int))), some (az_i ((zs o (fun u => az_b (ztir S u k)) + 0))), some (az_i ((((o : Nat) : Int) + 1)))]) (st2 := []) (s2 := s) rfl ?_
          have e9 : (zs o (fun u => az_b (ztir S u k)) + 0) = zs (o + 1) (fun u => az_b (ztir S u k)) := by
            show _ = zs o _ + _
            dsimp only
            first | (rw [az_b1 (by assumption)]) | (rw [az_b0 (by assumption)]) | (rw [show o = k from by omega, az_b0 ztir_irr])
          rw [e9]
          exact ih _ (by omega) (o + 1) rfl (by omega)
        · have h3 : ztir S o k := h3
          refine az_to 6 (pc2 := 35) (lv2 := [some (az_r 34), some (az_i (0)), some (az_i (zp)), some (az_i ((((zn S 2) : Nat) : Int))), some (az_i (((k : Nat) : Int))), some (az_i ((zs o (fun u => az_b (ztir S u k)) + 1))), some (az_i ((((o : Nat) : Int) + 1)))]) (st2 := []) (s2 := s) rfl ?_
          have e9 : (zs o (fun u => az_b (ztir S u k)) + 1) = zs (o + 1) (fun u => az_b (ztir S u k)) := by
            show _ = zs o _ + _
            dsimp only
            first | (rw [az_b1 (by assumption)]) | (rw [az_b0 (by assumption)]) | (rw [show o = k from by omega, az_b0 ztir_irr])
          rw [e9]
          exact ih _ (by omega) (o + 1) rfl (by omega)
set_option maxRecDepth 100000 in
set_option maxHeartbeats 800000 in
theorem zs_X10_ranked_0_L23 {d : Nat} {s : az_S} (hd : 3 ≤ d) {S : zR} {h : Nat} (hS : s 35 = S) (hI : zInv S h) (hh : h ≤ 10000) {zp : Int} (h_zp : az_in zp) : ∀ (mq : Nat) (k : Nat) (x5 : Option az_V) (x6 : Option az_V), mq = zn S 2 - k → (k ≤ zn S 2) → (∀ i, i < k → ¬ zpg S i = zp) → az_R d am_m_X10_ranked 23 [some (az_r 34), some (az_i (0)), some (az_i (zp)), some (az_i ((((zn S 2) : Nat) : Int))), some (az_i (((k : Nat) : Int))), x5, x6] [] (s) (zmq s (zq_tired S zp)) := by
  intro mq
  induction mq using Nat.strongRecOn with
  | _ mq ih =>
    intro k x5 x6 hm g0 g1
    have hz := zI_h hI hh
    have hs0 : s 35 0 = ((zn S 0 : Nat) : Int) := by rw [hS, hz.2.1.1]
    have hs1 : s 35 1 = ((zn S 1 : Nat) : Int) := by rw [hS, hz.2.1.2.1]
    have hs2 : s 35 2 = ((zn S 2 : Nat) : Int) := by rw [hS, hz.2.1.2.2]
    have hs3 : s 35 3 = S 3 := by rw [hS]
    have hs5 : s 35 5 = S 5 := by rw [hS]
    refine az_to 2 (pc2 := 26) (lv2 := [some (az_r 34), some (az_i (0)), some (az_i (zp)), some (az_i ((((zn S 2) : Nat) : Int))), some (az_i (((k : Nat) : Int))), x5, x6]) (st2 := [az_i ((((zn S 2) : Nat) : Int)), az_i (((k : Nat) : Int))]) (s2 := s) rfl ?_
    refine az_if2 96 29 rfl (by decide) (by first | assumption | exact ⟨by omega, by omega⟩) (by first | assumption | exact ⟨by omega, by omega⟩) (fun h1 => ?_) (fun h1 => ?_)
    · have h1 : (((zn S 2) : Nat) : Int) ≤ ((k : Nat) : Int) := h1
      refine az_to 4 (pc2 := 102) (lv2 := [some (az_r 34), some (az_i (0)), some (az_i (zp)), some (az_i ((((zn S 2) : Nat) : Int))), some (az_i (((k : Nat) : Int))), x5, x6]) (st2 := [az_i (0)]) (s2 := am_up s 34 6 (1)) rfl ?_
      refine az_retI rfl rfl ?_
      have e : zf (zn S 2) (fun t => decide (zpg S t = zp)) = -1 := zf_none _ _ (fun i hi => by rw [decide_eq_false_iff_not]; exact g1 i (by omega))
      have e2 : zq_tired S zp = (1, 0) := by unfold zq_tired; rw [e]; rfl
      rw [e2]
      exact ⟨rfl, rfl, fun j hj => by simp [am_up, hj], fun i h1 h2 => by funext j; simp [am_up, h1]⟩
    · have h1 : ¬ ((((zn S 2) : Nat) : Int) ≤ ((k : Nat) : Int)) := h1
      refine az_to 4 (pc2 := 35) (lv2 := [some (az_r 34), some (az_i (0)), some (az_i (zp)), some (az_i ((((zn S 2) : Nat) : Int))), some (az_i (((k : Nat) : Int))), some (az_i (0)), some (az_i (0))]) (st2 := []) (s2 := s) rfl ?_
      refine zs_X10_ranked_in0_L35 (zp := zp) (k := k) (by omega) hS hI hh (by omega) (fun x => ?_) _ 0 rfl (by omega)
      have hpr := zpg_r S k
      refine az_to 2 (pc2 := 79) (lv2 := [some (az_r 34), some (az_i (0)), some (az_i (zp)), some (az_i ((((zn S 2) : Nat) : Int))), some (az_i (((k : Nat) : Int))), some (az_i (zpg S k)), x]) (st2 := [az_i (zp), az_i (zpg S k)]) (s2 := s) rfl ?_
      refine az_if2 90 82 rfl (by decide) (by first | assumption | exact ⟨by omega, by omega⟩) (by first | assumption | exact ⟨by omega, by omega⟩) (fun h2 => ?_) (fun h2 => ?_)
      · have h2 : ¬ zpg S k = zp := h2
        refine az_to 2 (pc2 := 23) (lv2 := [some (az_r 34), some (az_i (0)), some (az_i (zp)), some (az_i ((((zn S 2) : Nat) : Int))), some (az_i ((((k : Nat) : Int) + 1))), some (az_i (zpg S k)), x]) (st2 := []) (s2 := s) rfl ?_
        exact ih _ (by omega) (k + 1) _ _ rfl (by omega) (fun i hi => by
          by_cases q : i = k
          · rw [q]; assumption
          · exact g1 i (by omega))
      · have h2 : zpg S k = zp := Decidable.not_not.mp h2
        refine az_to 4 (pc2 := 89) (lv2 := [some (az_r 34), some (az_i (0)), some (az_i (zp)), some (az_i ((((zn S 2) : Nat) : Int))), some (az_i (((k : Nat) : Int))), some (az_i (zpg S k)), x]) (st2 := [az_i (((k : Nat) : Int))]) (s2 := am_up s 34 6 (0)) rfl ?_
        refine az_retI rfl rfl ?_
        have e : zf (zn S 2) (fun t => decide (zpg S t = zp)) = ((k : Nat) : Int) := zf_first _ _ k (by omega) (by rw [decide_eq_true_eq]; assumption) (fun i hi => by rw [decide_eq_false_iff_not]; exact g1 i hi)
        have e2 : zq_tired S zp = (0, ((k : Nat) : Int)) := by unfold zq_tired; rw [e, if_pos (by omega)]
        rw [e2]
        exact ⟨rfl, rfl, fun j hj => by simp [am_up, hj], fun i h1 h2 => by funext j; simp [am_up, h1]⟩
set_option maxRecDepth 100000 in
set_option maxHeartbeats 800000 in
theorem zs_X10_ranked_0 {d : Nat} {s : az_S} (hd : 3 ≤ d) {S : zR} {h : Nat} (hS : s 35 = S) (hI : zInv S h) (hh : h ≤ 10000) {zp : Int} (h_zp : az_in zp) : az_R d am_m_X10_ranked 0 (az_ini (am_mL am_m_X10_ranked) [az_r 34, az_i (0), az_i (zp)]) [] (s) (zmq s (zq_tired S zp)) := by
  have hz := zI_h hI hh
  have hs0 : s 35 0 = ((zn S 0 : Nat) : Int) := by rw [hS, hz.2.1.1]
  have hs1 : s 35 1 = ((zn S 1 : Nat) : Int) := by rw [hS, hz.2.1.2.1]
  have hs2 : s 35 2 = ((zn S 2 : Nat) : Int) := by rw [hS, hz.2.1.2.2]
  have hs3 : s 35 3 = S 3 := by rw [hS]
  have hs5 : s 35 5 = S 5 := by rw [hS]
  refine az_to 0 (pc2 := 0) (lv2 := [some (az_r 34), some (az_i (0)), some (az_i (zp)), none, none, none, none]) (st2 := []) (s2 := s) rfl ?_
  refine az_to 1 (pc2 := 1) (lv2 := [some (az_r 34), some (az_i (0)), some (az_i (zp)), none, none, none, none]) (st2 := [az_i (0)]) (s2 := s) rfl ?_
  refine az_ifc 13 4 rfl (by decide) ⟨by decide, by decide⟩ (fun _ => ?_) (fun h => absurd (show az_cnd _ _ _ by unfold az_cnd; decide) h)
  refine az_to 3 (pc2 := 18) (lv2 := [some (az_r 34), some (az_i (0)), some (az_i (zp)), none, none, none, none]) (st2 := [az_i (2), az_r 35]) (s2 := s) rfl ?_
  refine az_ld_i 19 rfl rfl (by constructor <;> omega) ⟨by decide, rfl⟩ ?_
  refine az_to 0 (pc2 := 19) (lv2 := [some (az_r 34), some (az_i (0)), some (az_i (zp)), none, none, none, none]) (st2 := [az_i (s 35 2)]) (s2 := s) rfl ?_
  refine az_to 0 (pc2 := 19) (lv2 := [some (az_r 34), some (az_i (0)), some (az_i (zp)), none, none, none, none]) (st2 := [az_i (((zn S 2 : Nat) : Int))]) (s2 := s) (by rw [show s 35 2 = ((zn S 2 : Nat) : Int) from hs2]; rfl) ?_
  refine az_to 3 (pc2 := 23) (lv2 := [some (az_r 34), some (az_i (0)), some (az_i (zp)), some (az_i (((zn S 2 : Nat) : Int))), some (az_i (0)), none, none]) (st2 := []) (s2 := s) rfl ?_
  exact zs_X10_ranked_0_L23 (by omega) hS hI hh h_zp _ 0 _ _ rfl (by omega) (fun i hi => absurd hi (by omega))
set_option maxRecDepth 100000 in
set_option maxHeartbeats 800000 in
theorem zs_X10_richest {d : Nat} {s : az_S} (hd : 4 ≤ d) {S : zR} {h : Nat} (hS : s 35 = S) (hI : zInv S h) (hh : h ≤ 10000) {zp : Int} (h_zp : az_in zp) : az_R d am_m_X10_richest 0 (az_ini (am_mL am_m_X10_richest) [az_r 34, az_i (zp)]) [] (s) (zmq s (zq_richest S zp)) := by
  skip
  refine az_to 0 (pc2 := 0) (lv2 := [some (az_r 34), some (az_i (zp))]) (st2 := []) (s2 := s) rfl ?_
  refine az_to 3 (pc2 := 3) (lv2 := [some (az_r 34), some (az_i (zp))]) (st2 := [az_i (zp), az_i (1), az_r 34]) (s2 := s) rfl ?_
  refine az_cl (m2 := am_m_X10_ranked) (as := [az_r 34, az_i (1), az_i (zp)]) (rest := []) 6 rfl rfl ⟨rfl, rfl⟩ (by omega) (zs_X10_ranked_1 (s := s) (zp := zp) (by omega) hS hI hh (by first | assumption | exact ⟨by omega, by omega⟩)) (fun v9 t9 q9 => ?_) (fun E9 t9 q9 => by cases q9.1)
  obtain ⟨o9, q9⟩ := q9
  cases o9
  refine az_to 0 (pc2 := 6) (lv2 := [some (az_r 34), some (az_i (zp))]) (st2 := [az_i (if (zq_richest S zp).1 = 0 then (zq_richest S zp).2 else 0)]) (s2 := t9) rfl ?_
  refine az_retI rfl rfl ?_
  exact ⟨rfl, q9⟩
set_option maxRecDepth 100000 in
set_option maxHeartbeats 800000 in
theorem zs_X10_tired {d : Nat} {s : az_S} (hd : 4 ≤ d) {S : zR} {h : Nat} (hS : s 35 = S) (hI : zInv S h) (hh : h ≤ 10000) {zp : Int} (h_zp : az_in zp) : az_R d am_m_X10_tired 0 (az_ini (am_mL am_m_X10_tired) [az_r 34, az_i (zp)]) [] (s) (zmq s (zq_tired S zp)) := by
  skip
  refine az_to 0 (pc2 := 0) (lv2 := [some (az_r 34), some (az_i (zp))]) (st2 := []) (s2 := s) rfl ?_
  refine az_to 3 (pc2 := 3) (lv2 := [some (az_r 34), some (az_i (zp))]) (st2 := [az_i (zp), az_i (0), az_r 34]) (s2 := s) rfl ?_
  refine az_cl (m2 := am_m_X10_ranked) (as := [az_r 34, az_i (0), az_i (zp)]) (rest := []) 6 rfl rfl ⟨rfl, rfl⟩ (by omega) (zs_X10_ranked_0 (s := s) (zp := zp) (by omega) hS hI hh (by first | assumption | exact ⟨by omega, by omega⟩)) (fun v9 t9 q9 => ?_) (fun E9 t9 q9 => by cases q9.1)
  obtain ⟨o9, q9⟩ := q9
  cases o9
  refine az_to 0 (pc2 := 6) (lv2 := [some (az_r 34), some (az_i (zp))]) (st2 := [az_i (if (zq_tired S zp).1 = 0 then (zq_tired S zp).2 else 0)]) (s2 := t9) rfl ?_
  refine az_retI rfl rfl ?_
  exact ⟨rfl, q9⟩
set_option maxRecDepth 100000 in
set_option maxHeartbeats 800000 in
theorem zs_X10_isWell {d : Nat} {s : az_S} (hd : 4 ≤ d) {S : zR} {h : Nat} (hS : s 35 = S) (hI : zInv S h) (hh : h ≤ 10000)   : az_R d am_m_X10_isWell 0 (az_ini (am_mL am_m_X10_isWell) [az_r 34]) [] (s) (fun o t => o = .inl (some (az_i (az_b (S 5 = zsg S 1 + zst S 1 + zs (zn S 0) (fun b => zs5 S b))))) ∧ t = am_up s 34 6 (0)) := by
  have hz := zI_h hI hh
  have hs0 : s 35 0 = ((zn S 0 : Nat) : Int) := by rw [hS, hz.2.1.1]
  have hs1 : s 35 1 = ((zn S 1 : Nat) : Int) := by rw [hS, hz.2.1.2.1]
  have hs2 : s 35 2 = ((zn S 2 : Nat) : Int) := by rw [hS, hz.2.1.2.2]
  have hs3 : s 35 3 = S 3 := by rw [hS]
  have hs5 : s 35 5 = S 5 := by rw [hS]
  have hw1 := zsg_r hI hh (k := 1) (by omega)
  have hw2 := zst_r hI hh
  have hw3 := zchs_r hI hh
  rw [zchs_5 hI] at hw3
  refine az_to 0 (pc2 := 0) (lv2 := [some (az_r 34)]) (st2 := []) (s2 := s) rfl ?_
  refine az_to 6 (pc2 := 10) (lv2 := [some (az_r 34)]) (st2 := [az_i (5), az_r 35]) (s2 := am_up s 34 6 (0)) rfl ?_
  refine az_ld_i 11 rfl rfl (by constructor <;> omega) ⟨by decide, rfl⟩ ?_
  refine az_to 0 (pc2 := 11) (lv2 := [some (az_r 34)]) (st2 := [az_i ((am_up s 34 6 (0)) 35 5)]) (s2 := am_up s 34 6 (0)) rfl ?_
  refine az_to 0 (pc2 := 11) (lv2 := [some (az_r 34)]) (st2 := [az_i (S 5)]) (s2 := am_up s 34 6 (0)) (by rw [show (am_up s 34 6 (0)) 35 5 = S 5 from hs5]; rfl) ?_
  refine az_to 1 (pc2 := 12) (lv2 := [some (az_r 34)]) (st2 := [az_r 34, az_i (S 5)]) (s2 := am_up s 34 6 (0)) rfl ?_
  refine az_clv (v := some (az_i (zsg S 1))) (t := am_up s 34 6 (0)) (m2 := am_m_X10_coinsOfGoats) (as := [az_r 34]) (rest := [az_i (S 5)]) 15 rfl rfl ⟨rfl, rfl⟩ (by omega) (zs_X10_coinsOfGoats (s := am_up s 34 6 (0))  (by omega) hS hI hh) ?_
  refine az_to 0 (pc2 := 15) (lv2 := [some (az_r 34)]) (st2 := [az_i (zsg S 1), az_i (S 5)]) (s2 := am_up s 34 6 (0)) rfl ?_
  refine az_to 1 (pc2 := 16) (lv2 := [some (az_r 34)]) (st2 := [az_r 34, az_i (zsg S 1), az_i (S 5)]) (s2 := am_up s 34 6 (0)) rfl ?_
  refine az_clv (v := some (az_i (zst S 1))) (t := am_up s 34 6 (0)) (m2 := am_m_X10_coinsOfTrolls) (as := [az_r 34]) (rest := [az_i (zsg S 1), az_i (S 5)]) 19 rfl rfl ⟨rfl, rfl⟩ (by omega) (zs_X10_coinsOfTrolls (s := am_up s 34 6 (0))  (by omega) hS hI hh) ?_
  refine az_to 0 (pc2 := 19) (lv2 := [some (az_r 34)]) (st2 := [az_i (zst S 1), az_i (zsg S 1), az_i (S 5)]) (s2 := am_up s 34 6 (0)) rfl ?_
  refine az_to 2 (pc2 := 21) (lv2 := [some (az_r 34)]) (st2 := [az_r 34, az_i ((zsg S 1 + zst S 1)), az_i (S 5)]) (s2 := am_up s 34 6 (0)) rfl ?_
  refine az_clv (v := some (az_i (zs (zn S 0) (fun b => zs5 S b)))) (t := am_up s 34 6 (0)) (m2 := am_m_X10_chests) (as := [az_r 34]) (rest := [az_i ((zsg S 1 + zst S 1)), az_i (S 5)]) 24 rfl rfl ⟨rfl, rfl⟩ (by omega) (zs_X10_chests (s := am_up s 34 6 (0))  (by omega) hS hI hh) ?_
  refine az_to 0 (pc2 := 24) (lv2 := [some (az_r 34)]) (st2 := [az_i (zs (zn S 0) (fun b => zs5 S b)), az_i ((zsg S 1 + zst S 1)), az_i (S 5)]) (s2 := am_up s 34 6 (0)) rfl ?_
  refine az_to 1 (pc2 := 25) (lv2 := [some (az_r 34)]) (st2 := [az_i (((zsg S 1 + zst S 1) + zs (zn S 0) (fun b => zs5 S b))), az_i (S 5)]) (s2 := am_up s 34 6 (0)) rfl ?_
  refine az_if2 32 28 rfl (by decide) (by first | assumption | exact ⟨by omega, by omega⟩) (by first | assumption | exact ⟨by omega, by omega⟩) (fun h1 => ?_) (fun h1 => ?_)
  · have h1 : ¬ S 5 = ((zsg S 1 + zst S 1) + zs (zn S 0) (fun b => zs5 S b)) := h1
    refine az_to 1 (pc2 := 33) (lv2 := [some (az_r 34)]) (st2 := [az_i (0)]) (s2 := am_up s 34 6 (0)) rfl ?_
    refine az_retB rfl rfl (by first | decide | omega | exact Or.inl rfl | exact Or.inr rfl) ?_
    exact ⟨by rw [az_b0 (by omega)], rfl⟩
  · have h1 : S 5 = ((zsg S 1 + zst S 1) + zs (zn S 0) (fun b => zs5 S b)) := Decidable.not_not.mp h1
    refine az_to 2 (pc2 := 33) (lv2 := [some (az_r 34)]) (st2 := [az_i (1)]) (s2 := am_up s 34 6 (0)) rfl ?_
    refine az_retB rfl rfl (by first | decide | omega | exact Or.inl rfl | exact Or.inr rfl) ?_
    exact ⟨by rw [az_b1 (by omega)], rfl⟩
