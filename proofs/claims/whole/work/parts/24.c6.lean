/-! CLASS, 6: ways; written by program (wip/tools/zg/s6.py) -/
set_option maxRecDepth 100000 in
set_option maxHeartbeats 800000 in
theorem zs_X7_reachByLands_in_L58 {d : Nat} {s : az_S} (hd : 4 ≤ d) {S : zR} {h : Nat} (hR : zRel (s 3) S) (hI : zInv S h) (hh : h ≤ 10000) {m : Nat} (hL : ∀ b, b < zn S 0 → s 8 b = zln S m b) {f : Nat} (hf : f < 6) {w : Nat} (hw : w < 6) {r : Int} {D0 : Nat → Int} {Q : az_O → az_S → Prop} (hPw : s 14 w = 1) (hle : ∀ u, u < 6 → s 14 u = 1 → D0 u ≤ D0 w) (K : ∀ (y : az_S) (k : Nat), (∀ i, i ≠ 10 → y i = s i) → zDj S m f D0 (s 14) w (zn S 0) (y 10) → az_R d am_m_X7_reachByLands 105 [some (az_r 6), some (az_i ((f : Nat) : Int)), some (az_i r), some (az_i ((w : Nat) : Int)), some (az_i ((k : Nat) : Int))] [] y Q) : ∀ (mq : Nat) (k : Nat) (y : az_S), mq = zn S 0 - k → (k ≤ zn S 0) → (∀ i, i ≠ 10 → y i = s i) → (zDj S m f D0 (s 14) w k (y 10)) → az_R d am_m_X7_reachByLands 58 [some (az_r 6), some (az_i (((f : Nat) : Int))), some (az_i (r)), some (az_i (((w : Nat) : Int))), some (az_i (((k : Nat) : Int)))] [] (y) (Q) := by
  intro mq
  induction mq using Nat.strongRecOn with
  | _ mq ih =>
    intro k y hm g0 g1 g2
    have hz := zI_h hI hh
    have hRy : zRel (y 3) S := by rw [g1 3 (by decide)]; exact hR
    refine az_to 4 (pc2 := 65) (lv2 := [some (az_r 6), some (az_i (((f : Nat) : Int))), some (az_i (r)), some (az_i (((w : Nat) : Int))), some (az_i (((k : Nat) : Int)))]) (st2 := [az_i (2), az_r 1, az_i (((k : Nat) : Int))]) (s2 := y) rfl ?_
    refine az_clv (v := some (az_i (((zn S 0 : Nat) : Int)))) (t := y) (m2 := am_m_X8_of) (as := [az_r 1, az_i (2)]) (rest := [az_i (((k : Nat) : Int))]) 68 rfl rfl ⟨rfl, rfl⟩ (by omega) (zs_X8_of_2 (s := y)  (by omega) hRy hI hh) ?_
    refine az_to 0 (pc2 := 68) (lv2 := [some (az_r 6), some (az_i (((f : Nat) : Int))), some (az_i (r)), some (az_i (((w : Nat) : Int))), some (az_i (((k : Nat) : Int)))]) (st2 := [az_i (((zn S 0 : Nat) : Int)), az_i (((k : Nat) : Int))]) (s2 := y) rfl ?_
    refine az_if2 105 71 rfl (by decide) (by first | assumption | exact ⟨by omega, by omega⟩) (by first | assumption | exact ⟨by omega, by omega⟩) (fun h1 => ?_) (fun h1 => ?_)
    · have h1 : ((zn S 0 : Nat) : Int) ≤ ((k : Nat) : Int) := h1
      obtain rfl : k = zn S 0 := by omega
      exact K y _ g1 g2
    · have h1 : ¬ (((zn S 0 : Nat) : Int) ≤ ((k : Nat) : Int)) := h1
      refine az_to 7 (pc2 := 83) (lv2 := [some (az_r 6), some (az_i (((f : Nat) : Int))), some (az_i (r)), some (az_i (((w : Nat) : Int))), some (az_i (((k : Nat) : Int)))]) (st2 := [az_i (((w : Nat) : Int)), az_i (((k : Nat) : Int)), az_r 1, az_i (((w : Nat) : Int)), az_r 9]) (s2 := y) rfl ?_
      refine az_clv (v := some (az_i (zac S k (((w : Nat) : Int))))) (t := y) (m2 := am_m_X8_across) (as := [az_r 1, az_i (((k : Nat) : Int)), az_i (((w : Nat) : Int))]) (rest := [az_i (((w : Nat) : Int)), az_r 9]) 86 rfl rfl ⟨rfl, rfl⟩ (by omega) (zs_X8_across (s := y) (b := k) (l := (((w : Nat) : Int))) (by omega) hRy hI hh (by omega) (by first | assumption | exact ⟨by omega, by omega⟩)) ?_
      refine az_to 0 (pc2 := 86) (lv2 := [some (az_r 6), some (az_i (((f : Nat) : Int))), some (az_i (r)), some (az_i (((w : Nat) : Int))), some (az_i (((k : Nat) : Int)))]) (st2 := [az_i (zac S k (((w : Nat) : Int))), az_i (((w : Nat) : Int)), az_r 9]) (s2 := y) rfl ?_
      have hzc := zac_ed hI hh (b := k) (w := w) (by omega) hw
      refine az_to 3 (pc2 := 92) (lv2 := [some (az_r 6), some (az_i (((f : Nat) : Int))), some (az_i (r)), some (az_i (((w : Nat) : Int))), some (az_i (((k : Nat) : Int)))]) (st2 := [az_i (((k : Nat) : Int)), az_r 7, az_i (zac S k (((w : Nat) : Int))), az_i (((w : Nat) : Int)), az_r 9]) (s2 := y) rfl ?_
      refine az_clv (v := some (az_i (y 8 k))) (t := y) (m2 := am_m_X5_at) (as := [az_r 7, az_i (((k : Nat) : Int))]) (rest := [az_i (zac S k (((w : Nat) : Int))), az_i (((w : Nat) : Int)), az_r 9]) 95 rfl rfl ⟨rfl, rfl⟩ (by omega) (zs_X5_at_7 (s := y) (k := k) (by omega) (by omega)) ?_
      refine az_to 0 (pc2 := 95) (lv2 := [some (az_r 6), some (az_i (((f : Nat) : Int))), some (az_i (r)), some (az_i (((w : Nat) : Int))), some (az_i (((k : Nat) : Int)))]) (st2 := [az_i (y 8 k), az_i (zac S k (((w : Nat) : Int))), az_i (((w : Nat) : Int)), az_r 9]) (s2 := y) rfl ?_
      have hlk := zln_r hI hh (m := m) (b := k) (by omega)
      refine az_to 0 (pc2 := 95) (lv2 := [some (az_r 6), some (az_i (((f : Nat) : Int))), some (az_i (r)), some (az_i (((w : Nat) : Int))), some (az_i (((k : Nat) : Int)))]) (st2 := [az_i (zln S m k), az_i (zac S k (((w : Nat) : Int))), az_i (((w : Nat) : Int)), az_r 9]) (s2 := y) (by rw [show y 8 k = zln S m k from (by rw [g1 8 (by decide)]; exact hL k (by omega))]; rfl) ?_
      have hru := g2.1.2.1
      refine az_cl (m2 := am_m_X7_shorten) (as := [az_r 9, az_i (((w : Nat) : Int)), az_i (zac S k (((w : Nat) : Int))), az_i (zln S m k)]) (rest := []) 98 rfl rfl ⟨rfl, rfl⟩ (by omega) (zs_X7_shorten_z (s := y) (u := w) (z := (zac S k (((w : Nat) : Int)))) (l := (zln S m k)) (by omega) (by omega) (by omega) hlk hru) (fun v2 t2 q2 => ?_) (fun E t2 q2 => by obtain ⟨⟨x, q1⟩, _⟩ := q2; cases q1)
      obtain ⟨⟨x2, o2⟩, fa2, fb2, gg2⟩ := q2
      cases o2
      refine az_to 0 (pc2 := 98) (lv2 := [some (az_r 6), some (az_i (((f : Nat) : Int))), some (az_i (r)), some (az_i (((w : Nat) : Int))), some (az_i (((k : Nat) : Int)))]) (st2 := [az_i (x2)]) (s2 := t2) rfl ?_
      refine az_to 3 (pc2 := 58) (lv2 := [some (az_r 6), some (az_i (((f : Nat) : Int))), some (az_i (r)), some (az_i (((w : Nat) : Int))), some (az_i ((((k : Nat) : Int) + 1)))]) (st2 := []) (s2 := t2) rfl ?_
      refine ih _ (by omega) (k + 1) _ rfl (by omega) (fun i hi => by rw [gg2 i hi]; exact g1 i hi) ?_
      by_cases hz9 : zac S k ((w : Nat) : Int) = -1
      · rw [fa2 hz9]
        exact zDj_no hI hh (by omega) hw hz9 g2
      · obtain ⟨v, hv⟩ : ∃ v : Nat, zac S k ((w : Nat) : Int) = v := ⟨(zac S k ((w : Nat) : Int)).toNat, by omega⟩
        rw [fb2 v hv]
        exact zDj_st hI hh hf (by omega) hw hPw hle hv g2
set_option maxRecDepth 100000 in
set_option maxHeartbeats 800000 in
theorem zs_X7_reachByLands_L29 {d : Nat} {s : az_S} (hd : 5 ≤ d) {S : zR} {h : Nat} (hR : zRel (s 3) S) (hI : zInv S h) (hh : h ≤ 10000) {m : Nat} (hL : ∀ b, b < zn S 0 → s 8 b = zln S m b) {f : Nat} (hf : f < 6) : ∀ (mq : Nat) (r : Nat) (u : az_S) (x3 : Option az_V) (x4 : Option az_V), mq = 6 - r → (r ≤ 6) → (∀ i, i ≠ 10 → i ≠ 14 → u i = s i) → (zDo S m f (u 10) (u 14) r) → az_R d am_m_X7_reachByLands 29 [some (az_r 6), some (az_i (((f : Nat) : Int))), some (az_i (((r : Nat) : Int))), x3, x4] [] (u) (fun o t => o = .inl none ∧ zgd S m f 1000 (t 10) ∧ ∀ i, i ≠ 10 → i ≠ 14 → t i = s i) := by
  intro mq
  induction mq using Nat.strongRecOn with
  | _ mq ih =>
    intro r u x3 x4 hm g0 g1 g2
    have hz := zI_h hI hh
    have hRu : zRel (u 3) S := by rw [g1 3 (by decide) (by decide)]; exact hR
    have hLu : ∀ b, b < zn S 0 → u 8 b = zln S m b := fun b hb => by rw [g1 8 (by decide) (by decide)]; exact hL b hb
    have hDu := g2.1.2.1
    have hPu := g2.2.1
    refine az_to 2 (pc2 := 32) (lv2 := [some (az_r 6), some (az_i (((f : Nat) : Int))), some (az_i (((r : Nat) : Int))), x3, x4]) (st2 := [az_i (6), az_i (((r : Nat) : Int))]) (s2 := u) rfl ?_
    refine az_if2 111 35 rfl (by decide) (by first | assumption | exact ⟨by omega, by omega⟩) ⟨by decide, by decide⟩ (fun h1 => ?_) (fun h1 => ?_)
    · have h1 : 6 ≤ ((r : Nat) : Int) := h1
      refine az_ret0 rfl rfl ?_
      obtain rfl : r = 6 := by omega
      exact ⟨rfl, zDo_6 g2, g1⟩
    · have h1 : ¬ (6 ≤ ((r : Nat) : Int)) := h1
      refine az_to 1 (pc2 := 36) (lv2 := [some (az_r 6), some (az_i (((f : Nat) : Int))), some (az_i (((r : Nat) : Int))), x3, x4]) (st2 := [az_r 6]) (s2 := u) rfl ?_
      refine az_cl (m2 := am_m_X7_nearestToLeave) (as := [az_r 6]) (rest := []) 39 rfl rfl ⟨rfl, rfl⟩ (by omega) (zs_X7_nearestToLeave (s := u)  (by omega) hDu hPu) (fun v2 t2 q2 => ?_) (fun E t2 q2 => by have q2 := q2.2; simp at q2)
      obtain ⟨e2, q2⟩ := q2
      rw [e2]
      clear e2
      rcases q2 with ⟨o2, hn2⟩ | ⟨w, hw, o2, hPw, hmin⟩
      · cases o2
        refine az_to 0 (pc2 := 39) (lv2 := [some (az_r 6), some (az_i (((f : Nat) : Int))), some (az_i (((r : Nat) : Int))), x3, x4]) (st2 := [az_i (-1)]) (s2 := u) rfl ?_
        refine az_to 3 (pc2 := 42) (lv2 := [some (az_r 6), some (az_i (((f : Nat) : Int))), some (az_i (((r : Nat) : Int))), some (az_i (-1)), x4]) (st2 := [az_i (-1), az_i (-1)]) (s2 := u) rfl ?_
        refine az_if2 46 45 rfl (by decide) ⟨by decide, by decide⟩ ⟨by decide, by decide⟩ (fun h => absurd h (by unfold az_cnd; decide)) (fun _ => ?_)
        refine az_ret0 rfl rfl ?_
        exact ⟨rfl, zDo_none hI hh g2 hn2, g1⟩
      · cases o2
        refine az_to 0 (pc2 := 39) (lv2 := [some (az_r 6), some (az_i (((f : Nat) : Int))), some (az_i (((r : Nat) : Int))), x3, x4]) (st2 := [az_i (((w : Nat) : Int))]) (s2 := u) rfl ?_
        refine az_to 3 (pc2 := 42) (lv2 := [some (az_r 6), some (az_i (((f : Nat) : Int))), some (az_i (((r : Nat) : Int))), some (az_i (((w : Nat) : Int))), x4]) (st2 := [az_i (-1), az_i (((w : Nat) : Int))]) (s2 := u) rfl ?_
        refine az_if2 46 45 rfl (by decide) (by first | assumption | exact ⟨by omega, by omega⟩) ⟨by decide, by decide⟩ (fun h3 => ?_) (fun h3 => ?_)
        · have h3 : ¬ ((w : Nat) : Int) = -1 := h3
          refine az_to 4 (pc2 := 52) (lv2 := [some (az_r 6), some (az_i (((f : Nat) : Int))), some (az_i (((r : Nat) : Int))), some (az_i (((w : Nat) : Int))), x4]) (st2 := [az_i (1), az_i (((w : Nat) : Int)), az_r 13]) (s2 := u) rfl ?_
          refine az_clv (v := none) (t := am_up u 14 w 1) (m2 := am_m_X5_put) (as := [az_r 13, az_i (((w : Nat) : Int)), az_i (1)]) (rest := []) 55 rfl rfl ⟨rfl, rfl⟩ (by omega) (zs_X5_put_13 (s := u) (k := w) (v := 1) (by omega) (by omega)) ?_
          refine az_to 0 (pc2 := 55) (lv2 := [some (az_r 6), some (az_i (((f : Nat) : Int))), some (az_i (((r : Nat) : Int))), some (az_i (((w : Nat) : Int))), x4]) (st2 := []) (s2 := am_up u 14 w 1) rfl ?_
          refine az_to 2 (pc2 := 58) (lv2 := [some (az_r 6), some (az_i (((f : Nat) : Int))), some (az_i (((r : Nat) : Int))), some (az_i (((w : Nat) : Int))), some (az_i (0))]) (st2 := []) (s2 := am_up u 14 w 1) rfl ?_
          have hQ : ∀ v, v < 6 → am_up u 14 w 1 14 v = if v = w then 1 else u 14 v := fun v _ => by simp only [am_up, if_true]
          have hD0 : am_up u 14 w 1 10 = u 10 := by funext x; simp only [am_up]; rfl
          refine zs_X7_reachByLands_in_L58 (s := am_up u 14 w 1) (D0 := u 10) (by omega) hRu hI hh (fun b hb => by rw [show am_up u 14 w 1 8 = u 8 from by funext x; simp only [am_up]; rfl]; exact hLu b hb) hf hw (by rw [hQ w hw, if_pos rfl]) (fun x hx hq => by
            rw [hQ x hx] at hq
            by_cases q : x = w
            · rw [q]; exact Int.le_refl _
            · rw [if_neg q] at hq
              exact g2.2.2.2.1 x w hx hw hq hPw) (fun y k hy1 hy2 => ?_) _ 0 _ rfl (by omega) (fun i _ => rfl) (by rw [hD0]; exact zDj_0 hw hQ hmin g2)
          refine az_to 2 (pc2 := 29) (lv2 := [some (az_r 6), some (az_i (((f : Nat) : Int))), some (az_i ((((r : Nat) : Int) + 1))), some (az_i (((w : Nat) : Int))), some (az_i (((k : Nat) : Int)))]) (st2 := []) (s2 := y) rfl ?_
          refine ih _ (by omega) (r + 1) _ _ _ rfl (by omega) (fun i h1 h2 => by
            rw [hy1 i h1]
            rw [← g1 i h1 h2]
            funext x
            simp only [am_up, if_neg h2]) ?_
          rw [hy1 14 (by decide)]
          exact zDo_nx hw hPw hQ hmin g2 hy2
        · have h3 : ((w : Nat) : Int) = -1 := Decidable.not_not.mp h3
          exact absurd h3 (by omega)
set_option maxRecDepth 100000 in
set_option maxHeartbeats 800000 in
theorem zs_X7_reachByLands {d : Nat} {s : az_S} (hd : 5 ≤ d) {S : zR} {h : Nat} (hR : zRel (s 3) S) (hI : zInv S h) (hh : h ≤ 10000) {m : Nat} (hL : ∀ b, b < zn S 0 → s 8 b = zln S m b) {f : Nat} (hf : f < 6) : az_R d am_m_X7_reachByLands 0 (az_ini (am_mL am_m_X7_reachByLands) [az_r 6, az_i (((f : Nat) : Int))]) [] (s) (fun o t => o = .inl none ∧ zgd S m f 1000 (t 10) ∧ ∀ i, i ≠ 10 → i ≠ 14 → t i = s i) := by
  have hz := zI_h hI hh
  refine az_to 0 (pc2 := 0) (lv2 := [some (az_r 6), some (az_i (((f : Nat) : Int))), none, none, none]) (st2 := []) (s2 := s) rfl ?_
  refine az_to 3 (pc2 := 7) (lv2 := [some (az_r 6), some (az_i (((f : Nat) : Int))), none, none, none]) (st2 := [az_i (1000), az_r 9]) (s2 := s) rfl ?_
  refine az_cl (m2 := am_m_X5_fill) (as := [az_r 9, az_i (1000)]) (rest := []) 10 rfl rfl ⟨rfl, rfl⟩ (by omega) (zs_X5_fill_9 (s := s) (z := 1000) (by omega) ) (fun v4 t4 q4 => ?_) (fun E t4 q4 => by cases q4.1)
  obtain ⟨o4, f4, g4⟩ := q4
  cases o4
  refine az_to 0 (pc2 := 10) (lv2 := [some (az_r 6), some (az_i (((f : Nat) : Int))), none, none, none]) (st2 := []) (s2 := t4) rfl ?_
  refine az_to 4 (pc2 := 16) (lv2 := [some (az_r 6), some (az_i (((f : Nat) : Int))), none, none, none]) (st2 := [az_i (0), az_i (((f : Nat) : Int)), az_r 9]) (s2 := t4) rfl ?_
  refine az_clv (v := none) (t := am_up t4 10 f 0) (m2 := am_m_X5_put) (as := [az_r 9, az_i (((f : Nat) : Int)), az_i (0)]) (rest := []) 19 rfl rfl ⟨rfl, rfl⟩ (by omega) (zs_X5_put_9 (s := t4) (k := f) (v := 0) (by omega) (by omega)) ?_
  refine az_to 0 (pc2 := 19) (lv2 := [some (az_r 6), some (az_i (((f : Nat) : Int))), none, none, none]) (st2 := []) (s2 := am_up t4 10 f 0) rfl ?_
  refine az_to 3 (pc2 := 24) (lv2 := [some (az_r 6), some (az_i (((f : Nat) : Int))), none, none, none]) (st2 := [az_i (0), az_r 13]) (s2 := am_up t4 10 f 0) rfl ?_
  refine az_cl (m2 := am_m_X5_fill) (as := [az_r 13, az_i (0)]) (rest := []) 27 rfl rfl ⟨rfl, rfl⟩ (by omega) (zs_X5_fill_13 (s := am_up t4 10 f 0) (z := 0) (by omega) ) (fun v5 t5 q5 => ?_) (fun E t5 q5 => by cases q5.1)
  obtain ⟨o5, f5, g5⟩ := q5
  cases o5
  refine az_to 0 (pc2 := 27) (lv2 := [some (az_r 6), some (az_i (((f : Nat) : Int))), none, none, none]) (st2 := []) (s2 := t5) rfl ?_
  refine az_to 2 (pc2 := 29) (lv2 := [some (az_r 6), some (az_i (((f : Nat) : Int))), some (az_i (0)), none, none]) (st2 := []) (s2 := t5) rfl ?_
  exact zs_X7_reachByLands_L29 (by omega) hR hI hh hL hf _ 0 _ _ _ rfl (by omega) (fun i h1 h2 => by
    rw [g5 i h2]
    show am_up t4 10 f 0 i = _
    rw [← g4 i h1]
    funext x
    simp only [am_up, if_neg h1]) ⟨zes_0 (by decide) hf (fun v hv => by
      rw [g5 10 (by decide)]
      simp only [am_up, if_true]
      by_cases q : v = f
      · rw [if_pos q, if_pos q]
      · rw [if_neg q, if_neg q]; exact f4 v hv), fun v hv => Or.inl (f5 v hv), fun b u v _ hu _ _ hq => absurd (hq.symm.trans (f5 u hu)) (by decide), fun u v hu _ hq => absurd (hq.symm.trans (f5 u hu)) (by decide), (zs_ext (n := 6) (g := fun _ => 0) (fun v hv => f5 v hv)).trans rfl⟩
