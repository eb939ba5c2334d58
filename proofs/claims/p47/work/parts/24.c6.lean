/-! CLASS, 6: ways; written by program (wip/tools/zg/s6.py) -/
set_option maxRecDepth 100000 in
set_option maxHeartbeats 800000 in
theorem zs_X7_reachByLands_in_L58 {d : Nat} {s : az_S} (hd : 4 ≤ d) {S : zR} {h : Nat} (hR : zRel (s 3) S) (hI : zInv S h) (hh : h ≤ 10000) {m : Nat} (hL : ∀ b, b < zn S 0 → s 8 b = zln S m b) {f : Nat} (hf : f < 6) {w : Nat} (hw : w < 6) {r : Int} {D0 : Nat → Int} {Q : az_O → az_S → Prop} (hPw : s 14 w = 1) (hle : ∀ u, u < 6 → s 14 u = 1 → D0 u ≤ D0 w) (K : ∀ (y : az_S) (k : Nat), (∀ i, i ≠ 10 → y i = s i) → zDj S m f D0 (s 14) w (zn S 0) (y 10) → az_R d am_m_X7_reachByLands 105 [some (az_r 6), some (az_i ((f : Nat) : Int)), some (az_i r), some (az_i ((w : Nat) : Int)), some (az_i ((k : Nat) : Int))] [] y Q) : ∀ (mq : Nat) (k : Nat) (y : az_S), mq = zn S 0 - k → (k ≤ zn S 0) → (∀ i, i ≠ 10 → y i = s i) → (zDj S m f D0 (s 14) w k (y 10)) → az_R d am_m_X7_reachByLands 58 [some (az_r 6), some (az_i (((f : Nat) : Int))), some (az_i (r)), some (az_i (((w : Nat) : Int))), some (az_i (((k : Nat) : Int)))] [] (y) (Q) := by
  intro mq
  induction mq using Nat.strongRecOn with
  | _ mq ih =>
    intro k y hm g0 g1 g2
    have hz := zI_h hI hh
    have hRy : zRel (y 3) S := by rw [g1 3 (by decide)]; exact hR
    refine az_to 4 (pc2 := 65) (lv2 := [some (az_r 6), some (az_i (((f : Nat) : Int))), some (az_i (r)), some (az_i (((w : Nat) : Int))), some (az_i (((k : Nat) : Int)))]) (st2 := [az_i (2), az_r 1, az_i (((k : Nat) : Int))]) (s2 := y) rfl ?_
    refine az_clv (v := some (az_i (((zn S 0 : Nat) : Int)))) (t := y) (m2 := am_m_X8_of) (as := [az_r 1, az_i (2)]) (rest := [az_i (((k : Nat) : Int))]) 68 rfl rfl ⟨rfl, rfl⟩ (by omega) (zs_X8_of_2 (s := y)  (by omega) hRy hI hh) ?_
    refine az_to 0 (pc2 := 68) (lv2 := [some (az_r 6), some (az_i (((f : Nat) : Int))), some (az_i (r)), some (az_i (((w : Nat) : Int))), some (az_i (((k : Nat) : Int)))]) (st2 := [az_i (((zn S 0 : Nat) : Int)), az_i (((k : Nat) : Int))]) (s2 := y) rfl ?_
    refine az_if2 105 71 rfl (by decide) (by first | assumption | exact ⟨by omega, by omega⟩) (by first | assumption | exact ⟨by omega, by omega⟩) (fun h1 => ?_) (fun h1 => ?_)
    · have h1 : ((zn S 0 : Nat) : Int) ≤ ((k : Nat) : Int) := h1
      obtain rfl : k = zn S 0 := by omega
      exact K y _ g1 g2
    · have h1 : ¬ (((zn S 0 : Nat) : Int) ≤ ((k : Nat) : Int)) := h1
      refine az_to 7 (pc2 := 83) (lv2 := [some (az_r 6), some (az_i (((f : Nat) : Int))), some (az_i (r)), some (az_i (((w : Nat) : Int))), some (az_i (((k : Nat) : Int)))]) (st2 := [az_i (((w : Nat) : Int)), az_i (((k : Nat) : Int)), az_r 1, az_i (((w : Nat) : Int)), az_r 9]) (s2 := y) rfl ?_
      refine az_clv (v := some (az_i (zac S k (((w : Nat) : Int))))) (t := y) (m2 := am_m_X8_across) (as := [az_r 1, az_i (((k : Nat) : Int)), az_i (((w : Nat) : Int))]) (rest := [az_i (((w : Nat) : Int)), az_r 9]) 86 rfl rfl ⟨rfl, rfl⟩ (by omega) (zs_X8_across (s := y) (b := k) (l := (((w : Nat) : Int))) (by omega) hRy hI hh (by omega) (by first | assumption | exact ⟨by omega, by omega⟩)) ?_
      refine az_to 0 (pc2 := 86) (lv2 := [some (az_r 6), some (az_i (((f : Nat) : Int))), some (az_i (r)), some (az_i (((w : Nat) : Int))), some (az_i (((k : Nat) : Int)))]) (st2 := [az_i (zac S k (((w : Nat) : Int))), az_i (((w : Nat) : Int)), az_r 9]) (s2 := y) rfl ?_
      have hzc := zac_ed hI hh (b := k) (w := w) (by omega) hw
      refine az_to 3 (pc2 := 92) (lv2 := [some (az_r 6), some (az_i (((f : Nat) : Int))), some (az_i (r)), some (az_i (((w : Nat) : Int))), some (az_i (((k : Nat) : Int)))]) (st2 := [az_i (((k : Nat) : Int)), az_r 7, az_i (zac S k (((w : Nat) : Int))), az_i (((w : Nat) : Int)), az_r 9]) (s2 := y) rfl ?_
      refine az_clv (v := some (az_i (y 8 k))) (t := y) (m2 := am_m_X5_at) (as := [az_r 7, az_i (((k : Nat) : Int))]) (rest := [az_i (zac S k (((w : Nat) : Int))), az_i (((w : Nat) : Int)), az_r 9]) 95 rfl rfl ⟨rfl, rfl⟩ (by omega) (zs_X5_at_7 (s := y) (k := k) (by omega) (by omega)) ?_
      refine az_to 0 (pc2 := 95) (lv2 := [some (az_r 6), some (az_i (((f : Nat) : Int))), some (az_i (r)), some (az_i (((w : Nat) : Int))), some (az_i (((k : Nat) : Int)))]) (st2 := [az_i (y 8 k), az_i (zac S k (((w : Nat) : Int))), az_i (((w : Nat) : Int)), az_r 9]) (s2 := y) rfl ?_
      have hlk := zln_r hI hh (m := m) (b := k) (by omega)
      refine az_to 0 (pc2 := 95) (lv2 := [some (az_r 6), some (az_i (((f : Nat) : Int))), some (az_i (r)), some (az_i (((w : Nat) : Int))), some (az_i (((k : Nat) : Int)))]) (st2 := [az_i (zln S m k), az_i (zac S k (((w : Nat) : Int))), az_i (((w : Nat) : Int)), az_r 9]) (s2 := y) (by rw [show y 8 k = zln S m k from (by rw [g1 8 (by decide)]; exact hL k (by omega))]; rfl) ?_
      have hru := g2.1.2.1
      refine az_cl (m2 := am_m_X7_shorten) (as := [az_r 9, az_i (((w : Nat) : Int)), az_i (zac S k (((w : Nat) : Int))), az_i (zln S m k)]) (rest := []) 98 rfl rfl ⟨rfl, rfl⟩ (by omega) (zs_X7_shorten_z (s := y) (u := w) (z := (zac S k (((w : Nat) : Int)))) (l := (zln S m k)) (by omega) (by omega) (by omega) hlk hru) (fun v2 t2 q2 => ?_) (fun E t2 q2 => by obtain ⟨⟨x, q1⟩, _⟩ := q2; cases q1)
      obtain ⟨⟨x2, o2⟩, fa2, fb2, gg2⟩ := q2
      cases o2
      refine az_to 0 (pc2 := 98) (lv2 := [some (az_r 6), some (az_i (((f : Nat) : Int))), some (az_i (r)), some (az_i (((w : Nat) : Int))), some (az_i (((k : Nat) : Int)))]) (st2 := [az_i (x2)]) (s2 := t2) rfl ?_
      refine az_to 3 (pc2 := 58) (lv2 := [some (az_r 6), some (az_i (((f : Nat) : Int))), some (az_i (r)), some (az_i (((w : Nat) : Int))), some (az_i ((((k : Nat) : Int) + 1)))]) (st2 := []) (s2 := t2) rfl ?_
      refine ih _ (by omega) (k + 1) _ rfl (by omega) (fun i hi => by rw [gg2 i hi]; exact g1 i hi) ?_
      by_cases hz9 : zac S k ((w : Nat) : Int) = -1
      · rw [fa2 hz9]
        exact zDj_no hI hh (by omega) hw hz9 g2
      · obtain ⟨v, hv⟩ : ∃ v : Nat, zac S k ((w : Nat) : Int) = v := ⟨(zac S k ((w : Nat) : Int)).toNat, by omega⟩
        rw [fb2 v hv]
        exact zDj_st hI hh hf (by omega) hw hPw hle hv g2
set_option maxRecDepth 100000 in
set_option maxHeartbeats 800000 in
theorem zs_X7_reachByLands_L29 {d : Nat} {s : az_S} (hd : 5 ≤ d) {S : zR} {h : Nat} (hR : zRel (s 3) S) (hI : zInv S h) (hh : h ≤ 10000) {m : Nat} (hL : ∀ b, b < zn S 0 → s 8 b = zln S m b) {f : Nat} (hf : f < 6) : ∀ (mq : Nat) (r : Nat) (u : az_S) (x3 : Option az_V) (x4 : Option az_V), mq = 6 - r → (r ≤ 6) → (∀ i, i ≠ 10 → i ≠ 14 → u i = s i) → (zDo S m f (u 10) (u 14) r) → az_R d am_m_X7_reachByLands 29 [some (az_r 6), some (az_i (((f : Nat) : Int))), some (az_i (((r : Nat) : Int))), x3, x4] [] (u) (fun o t => o = .inl none ∧ zgd S m f 1000 (t 10) ∧ ∀ i, i ≠ 10 → i ≠ 14 → t i = s i) := by
  intro mq
  induction mq using Nat.strongRecOn with
  | _ mq ih =>
    intro r u x3 x4 hm g0 g1 g2
    have hz := zI_h hI hh
    have hRu : zRel (u 3) S := by rw [g1 3 (by decide) (by decide)]; exact hR
    have hLu : ∀ b, b < zn S 0 → u 8 b = zln S m b := fun b hb => by rw [g1 8 (by decide) (by decide)]; exact hL b hb
    have hDu := g2.1.2.1
    have hPu := g2.2.1
    refine az_to 2 (pc2 := 32) (lv2 := [some (az_r 6), some (az_i (((f : Nat) : Int))), some (az_i (((r : Nat) : Int))), x3, x4]) (st2 := [az_i (6), az_i (((r : Nat) : Int))]) (s2 := u) rfl ?_
    refine az_if2 111 35 rfl (by decide) (by first | assumption | exact ⟨by omega, by omega⟩) ⟨by decide, by decide⟩ (fun h1 => ?_) (fun h1 => ?_)
    · have h1 : 6 ≤ ((r : Nat) : Int) := h1
      refine az_ret0 rfl rfl ?_
      obtain rfl : r = 6 := by omega
      exact ⟨rfl, zDo_6 g2, g1⟩
    · have h1 : ¬ (6 ≤ ((r : Nat) : Int)) := h1
      refine az_to 1 (pc2 := 36) (lv2 := [some (az_r 6), some (az_i (((f : Nat) : Int))), some (az_i (((r : Nat) : Int))), x3, x4]) (st2 := [az_r 6]) (s2 := u) rfl ?_
      refine az_cl (m2 := am_m_X7_nearestToLeave) (as := [az_r 6]) (rest := []) 39 rfl rfl ⟨rfl, rfl⟩ (by omega) (zs_X7_nearestToLeave (s := u)  (by omega) hDu hPu) (fun v2 t2 q2 => ?_) (fun E t2 q2 => by have q2 := q2.2; simp at q2)
      obtain ⟨e2, q2⟩ := q2
      rw [e2]
      clear e2
      rcases q2 with ⟨o2, hn2⟩ | ⟨w, hw, o2, hPw, hmin⟩
      · cases o2
        refine az_to 0 (pc2 := 39) (lv2 := [some (az_r 6), some (az_i (((f : Nat) : Int))), some (az_i (((r : Nat) : Int))), x3, x4]) (st2 := [az_i (-1)]) (s2 := u) rfl ?_
        refine az_to 3 (pc2 := 42) (lv2 := [some (az_r 6), some (az_i (((f : Nat) : Int))), some (az_i (((r : Nat) : Int))), some (az_i (-1)), x4]) (st2 := [az_i (-1), az_i (-1)]) (s2 := u) rfl ?_
        refine az_if2 46 45 rfl (by decide) ⟨by decide, by decide⟩ ⟨by decide, by decide⟩ (fun h => absurd h (by unfold az_cnd; decide)) (fun _ => ?_)
        refine az_ret0 rfl rfl ?_
        exact ⟨rfl, zDo_none hI hh g2 hn2, g1⟩
      · cases o2
        refine az_to 0 (pc2 := 39) (lv2 := [some (az_r 6), some (az_i (((f : Nat) : Int))), some (az_i (((r : Nat) : Int))), x3, x4]) (st2 := [az_i (((w : Nat) : Int))]) (s2 := u) rfl ?_
        refine az_to 3 (pc2 := 42) (lv2 := [some (az_r 6), some (az_i (((f : Nat) : Int))), some (az_i (((r : Nat) : Int))), some (az_i (((w : Nat) : Int))), x4]) (st2 := [az_i (-1), az_i (((w : Nat) : Int))]) (s2 := u) rfl ?_
        refine az_if2 46 45 rfl (by decide) (by first | assumption | exact ⟨by omega, by omega⟩) ⟨by decide, by decide⟩ (fun h3 => ?_) (fun h3 => ?_)
        · have h3 : ¬ ((w : Nat) : Int) = -1 := h3
          refine az_to 4 (pc2 := 52) (lv2 := [some (az_r 6), some (az_i (((f : Nat) : Int))), some (az_i (((r : Nat) : Int))), some (az_i (((w : Nat) : Int))), x4]) (st2 := [az_i (1), az_i (((w : Nat) : Int)), az_r 13]) (s2 := u) rfl ?_
          refine az_clv (v := none) (t := am_up u 14 w 1) (m2 := am_m_X5_put) (as := [az_r 13, az_i (((w : Nat) : Int)), az_i (1)]) (rest := []) 55 rfl rfl ⟨rfl, rfl⟩ (by omega) (zs_X5_put_13 (s := u) (k := w) (v := 1) (by omega) (by omega)) ?_
          refine az_to 0 (pc2 := 55) (lv2 := [some (az_r 6), some (az_i (((f : Nat) : Int))), some (az_i (((r : Nat) : Int))), some (az_i (((w : Nat) : Int))), x4]) (st2 := []) (s2 := am_up u 14 w 1) rfl ?_
          refine az_to 2 (pc2 := 58) (lv2 := [some (az_r 6), some (az_i (((f : Nat) : Int))), some (az_i (((r : Nat) : Int))), some (az_i (((w : Nat) : Int))), some (az_i (0))]) (st2 := []) (s2 := am_up u 14 w 1) rfl ?_
          have hQ : ∀ v, v < 6 → am_up u 14 w 1 14 v = if v = w then 1 else u 14 v := fun v _ => by simp only [am_up, if_true]
          have hD0 : am_up u 14 w 1 10 = u 10 := by funext x; simp only [am_up]; rfl
          refine zs_X7_reachByLands_in_L58 (s := am_up u 14 w 1) (D0 := u 10) (by omega) hRu hI hh (fun b hb => by rw [show am_up u 14 w 1 8 = u 8 from by funext x; simp only [am_up]; rfl]; exact hLu b hb) hf hw (by rw [hQ w hw, if_pos rfl]) (fun x hx hq => by
            rw [hQ x hx] at hq
            by_cases q : x = w
            · rw [q]; exact Int.le_refl _
            · rw [if_neg q] at hq
              exact g2.2.2.2.1 x w hx hw hq hPw) (fun y k hy1 hy2 => ?_) _ 0 _ rfl (by omega) (fun i _ => rfl) (by rw [hD0]; exact zDj_0 hw hQ hmin g2)
          refine az_to 2 (pc2 := 29) (lv2 := [some (az_r 6), some (az_i (((f : Nat) : Int))), some (az_i ((((r : Nat) : Int) + 1))), some (az_i (((w : Nat) : Int))), some (az_i (((k : Nat) : Int)))]) (st2 := []) (s2 := y) rfl ?_
          refine ih _ (by omega) (r + 1) _ _ _ rfl (by omega) (fun i h1 h2 => by
            rw [hy1 i h1]
            rw [← g1 i h1 h2]
            funext x
            simp only [am_up, if_neg h2]) ?_
          rw [hy1 14 (by decide)]
          exact zDo_nx hw hPw hQ hmin g2 hy2
        · have h3 : ((w : Nat) : Int) = -1 := Decidable.not_not.mp h3
          exact absurd h3 (by omega)
set_option maxRecDepth 100000 in
set_option maxHeartbeats 800000 in
theorem zs_X7_reachByLands {d : Nat} {s : az_S} (hd : 5 ≤ d) {S : zR} {h : Nat} (hR : zRel (s 3) S) (hI : zInv S h) (hh : h ≤ 10000) {m : Nat} (hL : ∀ b, b < zn S 0 → s 8 b = zln S m b) {f : Nat} (hf : f < 6) : az_R d am_m_X7_reachByLands 0 (az_ini (am_mL am_m_X7_reachByLands) [az_r 6, az_i (((f : Nat) : Int))]) [] (s) (fun o t => o = .inl none ∧ zgd S m f 1000 (t 10) ∧ ∀ i, i ≠ 10 → i ≠ 14 → t i = s i) := by
  have hz := zI_h hI hh
  refine az_to 0 (pc2 := 0) (lv2 := [some (az_r 6), some (az_i (((f : Nat) : Int))), none, none, none]) (st2 := []) (s2 := s) rfl ?_
  refine az_to 3 (pc2 := 7) (lv2 := [some (az_r 6), some (az_i (((f : Nat) : Int))), none, none, none]) (st2 := [az_i (1000), az_r 9]) (s2 := s) rfl ?_
  refine az_cl (m2 := am_m_X5_fill) (as := [az_r 9, az_i (1000)]) (rest := []) 10 rfl rfl ⟨rfl, rfl⟩ (by omega) (zs_X5_fill_9 (s := s) (z := 1000) (by omega) ) (fun v4 t4 q4 => ?_) (fun E t4 q4 => by cases q4.1)
  obtain ⟨o4, ff4, gg4⟩ := q4
  cases o4
  refine az_to 0 (pc2 := 10) (lv2 := [some (az_r 6), some (az_i (((f : Nat) : Int))), none, none, none]) (st2 := []) (s2 := t4) rfl ?_
  refine az_to 4 (pc2 := 16) (lv2 := [some (az_r 6), some (az_i (((f : Nat) : Int))), none, none, none]) (st2 := [az_i (0), az_i (((f : Nat) : Int)), az_r 9]) (s2 := t4) rfl ?_
  refine az_clv (v := none) (t := am_up t4 10 f 0) (m2 := am_m_X5_put) (as := [az_r 9, az_i (((f : Nat) : Int)), az_i (0)]) (rest := []) 19 rfl rfl ⟨rfl, rfl⟩ (by omega) (zs_X5_put_9 (s := t4) (k := f) (v := 0) (by omega) (by omega)) ?_
  refine az_to 0 (pc2 := 19) (lv2 := [some (az_r 6), some (az_i (((f : Nat) : Int))), none, none, none]) (st2 := []) (s2 := am_up t4 10 f 0) rfl ?_
  refine az_to 3 (pc2 := 24) (lv2 := [some (az_r 6), some (az_i (((f : Nat) : Int))), none, none, none]) (st2 := [az_i (0), az_r 13]) (s2 := am_up t4 10 f 0) rfl ?_
  refine az_cl (m2 := am_m_X5_fill) (as := [az_r 13, az_i (0)]) (rest := []) 27 rfl rfl ⟨rfl, rfl⟩ (by omega) (zs_X5_fill_13 (s := am_up t4 10 f 0) (z := 0) (by omega) ) (fun v5 t5 q5 => ?_) (fun E t5 q5 => by cases q5.1)
  obtain ⟨o5, ff5, gg5⟩ := q5
  cases o5
  refine az_to 0 (pc2 := 27) (lv2 := [some (az_r 6), some (az_i (((f : Nat) : Int))), none, none, none]) (st2 := []) (s2 := t5) rfl ?_
  refine az_to 2 (pc2 := 29) (lv2 := [some (az_r 6), some (az_i (((f : Nat) : Int))), some (az_i (0)), none, none]) (st2 := []) (s2 := t5) rfl ?_
  exact zs_X7_reachByLands_L29 (by omega) hR hI hh hL hf _ 0 _ _ _ rfl (by omega) (fun i h1 h2 => by
    rw [gg5 i h2]
    show am_up t4 10 f 0 i = _
    rw [← gg4 i h1]
    funext x
    simp only [am_up, if_neg h1]) ⟨zes_0 (by decide) hf (fun v hv => by
      rw [gg5 10 (by decide)]
      simp only [am_up, if_true]
      by_cases q : v = f
      · rw [if_pos q, if_pos q]
      · rw [if_neg q, if_neg q]; exact ff4 v hv), fun v hv => Or.inl (ff5 v hv), fun b u v _ hu _ _ hq => absurd (hq.symm.trans (ff5 u hu)) (by decide), fun u v hu _ hq => absurd (hq.symm.trans (ff5 u hu)) (by decide), (zs_ext (n := 6) (g := fun _ => 0) (fun v hv => ff5 v hv)).trans rfl⟩
set_option maxRecDepth 100000 in
set_option maxHeartbeats 800000 in
theorem zs_X7_reachByBridges_in_L38 {d : Nat} {s : az_S} (hd : 4 ≤ d) {S : zR} {h : Nat} (hR : zRel (s 3) S) (hI : zInv S h) (hh : h ≤ 10000) {m : Nat} (hL : ∀ b, b < zn S 0 → s 8 b = zln S m b) {f : Nat} (hf : f < 6) {r : Int} {D0 : Nat → Int} {Q : az_O → az_S → Prop} (K : ∀ (y : az_S) (c : Int) (x4 x5 x6 x7 x8 : Option az_V), (∀ i, i ≠ 12 → y i = s i) → zBj S m f 1000 D0 (zn S 0) (y 12) c → az_R d am_m_X7_reachByBridges 145 [some (az_r 6), some (az_i ((f : Nat) : Int)), some (az_i c), some (az_i r), x4, x5, x6, x7, x8] [] y Q) : ∀ (mq : Nat) (k : Nat) (y : az_S) (c : Int) (x5 : Option az_V) (x6 : Option az_V) (x7 : Option az_V) (x8 : Option az_V), mq = zn S 0 - k → (k ≤ zn S 0) → (∀ i, i ≠ 12 → y i = s i) → (zBj S m f 1000 D0 k (y 12) c) → az_R d am_m_X7_reachByBridges 38 [some (az_r 6), some (az_i (((f : Nat) : Int))), some (az_i (c)), some (az_i (r)), some (az_i (((k : Nat) : Int))), x5, x6, x7, x8] [] (y) (Q) := by
  intro mq
  induction mq using Nat.strongRecOn with
  | _ mq ih =>
    intro k y c x5 x6 x7 x8 hm g0 g1 g2
    have hz := zI_h hI hh
    have hRy : zRel (y 3) S := by rw [g1 3 (by decide)]; exact hR
    have hc01 : c = 0 ∨ c = 1 := by rcases g2.2.2.2 with q | q <;> omega
    refine az_to 4 (pc2 := 45) (lv2 := [some (az_r 6), some (az_i (((f : Nat) : Int))), some (az_i (c)), some (az_i (r)), some (az_i (((k : Nat) : Int))), x5, x6, x7, x8]) (st2 := [az_i (2), az_r 1, az_i (((k : Nat) : Int))]) (s2 := y) rfl ?_
    refine az_clv (v := some (az_i (((zn S 0 : Nat) : Int)))) (t := y) (m2 := am_m_X8_of) (as := [az_r 1, az_i (2)]) (rest := [az_i (((k : Nat) : Int))]) 48 rfl rfl ⟨rfl, rfl⟩ (by omega) (zs_X8_of_2 (s := y)  (by omega) hRy hI hh) ?_
    refine az_to 0 (pc2 := 48) (lv2 := [some (az_r 6), some (az_i (((f : Nat) : Int))), some (az_i (c)), some (az_i (r)), some (az_i (((k : Nat) : Int))), x5, x6, x7, x8]) (st2 := [az_i (((zn S 0 : Nat) : Int)), az_i (((k : Nat) : Int))]) (s2 := y) rfl ?_
    refine az_if2 145 51 rfl (by decide) (by first | assumption | exact ⟨by omega, by omega⟩) (by first | assumption | exact ⟨by omega, by omega⟩) (fun h1 => ?_) (fun h1 => ?_)
    · have h1 : ((zn S 0 : Nat) : Int) ≤ ((k : Nat) : Int) := h1
      obtain rfl : k = zn S 0 := by omega
      exact K y _ _ _ _ _ _ g1 g2
    · have h1 : ¬ (((zn S 0 : Nat) : Int) ≤ ((k : Nat) : Int)) := h1
      refine az_to 4 (pc2 := 58) (lv2 := [some (az_r 6), some (az_i (((f : Nat) : Int))), some (az_i (c)), some (az_i (r)), some (az_i (((k : Nat) : Int))), x5, x6, x7, x8]) (st2 := [az_i (0), az_i (((k : Nat) : Int)), az_r 1]) (s2 := y) rfl ?_
      refine az_clv (v := some (az_i (zB S k 0))) (t := y) (m2 := am_m_X8_ofBridge) (as := [az_r 1, az_i (((k : Nat) : Int)), az_i (0)]) (rest := []) 61 rfl rfl ⟨rfl, rfl⟩ (by omega) (zs_X8_ofBridge (s := y) (b := k) (k := 0) (by omega) hRy (by omega) (by omega) (by omega)) ?_
      refine az_to 0 (pc2 := 61) (lv2 := [some (az_r 6), some (az_i (((f : Nat) : Int))), some (az_i (c)), some (az_i (r)), some (az_i (((k : Nat) : Int))), x5, x6, x7, x8]) (st2 := [az_i (zB S k 0)]) (s2 := y) rfl ?_
      have hzb := zI_b hI hh (b := k) (by omega)
      obtain ⟨e0, he0⟩ : ∃ n : Nat, zB S k 0 = n := ⟨(zB S k 0).toNat, by omega⟩
      refine az_to 0 (pc2 := 61) (lv2 := [some (az_r 6), some (az_i (((f : Nat) : Int))), some (az_i (c)), some (az_i (r)), some (az_i (((k : Nat) : Int))), x5, x6, x7, x8]) (st2 := [az_i (((e0 : Nat) : Int))]) (s2 := y) (by rw [he0]; rfl) ?_
      refine az_to 5 (pc2 := 70) (lv2 := [some (az_r 6), some (az_i (((f : Nat) : Int))), some (az_i (c)), some (az_i (r)), some (az_i (((k : Nat) : Int))), some (az_i (((e0 : Nat) : Int))), x6, x7, x8]) (st2 := [az_i (1), az_i (((k : Nat) : Int)), az_r 1]) (s2 := y) rfl ?_
      refine az_clv (v := some (az_i (zB S k 1))) (t := y) (m2 := am_m_X8_ofBridge) (as := [az_r 1, az_i (((k : Nat) : Int)), az_i (1)]) (rest := []) 73 rfl rfl ⟨rfl, rfl⟩ (by omega) (zs_X8_ofBridge (s := y) (b := k) (k := 1) (by omega) hRy (by omega) (by omega) (by omega)) ?_
      refine az_to 0 (pc2 := 73) (lv2 := [some (az_r 6), some (az_i (((f : Nat) : Int))), some (az_i (c)), some (az_i (r)), some (az_i (((k : Nat) : Int))), some (az_i (((e0 : Nat) : Int))), x6, x7, x8]) (st2 := [az_i (zB S k 1)]) (s2 := y) rfl ?_
      have hzb := zI_b hI hh (b := k) (by omega)
      obtain ⟨e1, he1⟩ : ∃ n : Nat, zB S k 1 = n := ⟨(zB S k 1).toNat, by omega⟩
      have hru := g2.1.2.1
      have hed : zed S k e0 e1 := Or.inl ⟨he0, he1⟩
      refine az_to 0 (pc2 := 73) (lv2 := [some (az_r 6), some (az_i (((f : Nat) : Int))), some (az_i (c)), some (az_i (r)), some (az_i (((k : Nat) : Int))), some (az_i (((e0 : Nat) : Int))), x6, x7, x8]) (st2 := [az_i (((e1 : Nat) : Int))]) (s2 := y) (by rw [he1]; rfl) ?_
      refine az_to 8 (pc2 := 89) (lv2 := [some (az_r 6), some (az_i (((f : Nat) : Int))), some (az_i (c)), some (az_i (r)), some (az_i (((k : Nat) : Int))), some (az_i (((e0 : Nat) : Int))), some (az_i (((e1 : Nat) : Int))), x7, x8]) (st2 := [az_i (((k : Nat) : Int)), az_r 7, az_i (((e1 : Nat) : Int)), az_i (((e0 : Nat) : Int)), az_r 11]) (s2 := y) rfl ?_
      refine az_clv (v := some (az_i (y 8 k))) (t := y) (m2 := am_m_X5_at) (as := [az_r 7, az_i (((k : Nat) : Int))]) (rest := [az_i (((e1 : Nat) : Int)), az_i (((e0 : Nat) : Int)), az_r 11]) 92 rfl rfl ⟨rfl, rfl⟩ (by omega) (zs_X5_at_7 (s := y) (k := k) (by omega) (by omega)) ?_
      refine az_to 0 (pc2 := 92) (lv2 := [some (az_r 6), some (az_i (((f : Nat) : Int))), some (az_i (c)), some (az_i (r)), some (az_i (((k : Nat) : Int))), some (az_i (((e0 : Nat) : Int))), some (az_i (((e1 : Nat) : Int))), x7, x8]) (st2 := [az_i (y 8 k), az_i (((e1 : Nat) : Int)), az_i (((e0 : Nat) : Int)), az_r 11]) (s2 := y) rfl ?_
      have hlk := zln_r hI hh (m := m) (b := k) (by omega)
      refine az_to 0 (pc2 := 92) (lv2 := [some (az_r 6), some (az_i (((f : Nat) : Int))), some (az_i (c)), some (az_i (r)), some (az_i (((k : Nat) : Int))), some (az_i (((e0 : Nat) : Int))), some (az_i (((e1 : Nat) : Int))), x7, x8]) (st2 := [az_i (zln S m k), az_i (((e1 : Nat) : Int)), az_i (((e0 : Nat) : Int)), az_r 11]) (s2 := y) (by rw [show y 8 k = zln S m k from (by rw [show y 8 = s 8 from g1 8 (by decide)]; exact hL k (by omega))]; rfl) ?_
      refine az_cl (m2 := am_m_X7_shorten) (as := [az_r 11, az_i (((e0 : Nat) : Int)), az_i (((e1 : Nat) : Int)), az_i (zln S m k)]) (rest := []) 95 rfl rfl ⟨rfl, rfl⟩ (by omega) (zs_X7_shorten_11 (s := y) (u := e0) (v := e1) (l := (zln S m k)) (by omega) (by omega) (by omega) hlk hru) (fun v2 t2 q2 => ?_) (fun E t2 q2 => by cases q2.1)
      obtain ⟨o2, ff2, gg2⟩ := q2
      cases o2
      refine az_to 0 (pc2 := 95) (lv2 := [some (az_r 6), some (az_i (((f : Nat) : Int))), some (az_i (c)), some (az_i (r)), some (az_i (((k : Nat) : Int))), some (az_i (((e0 : Nat) : Int))), some (az_i (((e1 : Nat) : Int))), x7, x8]) (st2 := [az_i (az_b (y 12 e0 + (zln S m k) < y 12 e1))]) (s2 := t2) rfl ?_
      have hru : ∀ w, w < 6 → 0 ≤ t2 12 w ∧ t2 12 w ≤ 1000 := by
        have q := (zes_rl hI hh (m := m) hf (by omega) hed g2.1).2.1
        rw [← ff2] at q
        exact q
      refine az_to 8 (pc2 := 111) (lv2 := [some (az_r 6), some (az_i (((f : Nat) : Int))), some (az_i (c)), some (az_i (r)), some (az_i (((k : Nat) : Int))), some (az_i (((e0 : Nat) : Int))), some (az_i (((e1 : Nat) : Int))), some (az_i (az_b (y 12 e0 + (zln S m k) < y 12 e1))), x8]) (st2 := [az_i (((k : Nat) : Int)), az_r 7, az_i (((e0 : Nat) : Int)), az_i (((e1 : Nat) : Int)), az_r 11]) (s2 := t2) rfl ?_
      refine az_clv (v := some (az_i (t2 8 k))) (t := t2) (m2 := am_m_X5_at) (as := [az_r 7, az_i (((k : Nat) : Int))]) (rest := [az_i (((e0 : Nat) : Int)), az_i (((e1 : Nat) : Int)), az_r 11]) 114 rfl rfl ⟨rfl, rfl⟩ (by omega) (zs_X5_at_7 (s := t2) (k := k) (by omega) (by omega)) ?_
      refine az_to 0 (pc2 := 114) (lv2 := [some (az_r 6), some (az_i (((f : Nat) : Int))), some (az_i (c)), some (az_i (r)), some (az_i (((k : Nat) : Int))), some (az_i (((e0 : Nat) : Int))), some (az_i (((e1 : Nat) : Int))), some (az_i (az_b (y 12 e0 + (zln S m k) < y 12 e1))), x8]) (st2 := [az_i (t2 8 k), az_i (((e0 : Nat) : Int)), az_i (((e1 : Nat) : Int)), az_r 11]) (s2 := t2) rfl ?_
      have hlk := zln_r hI hh (m := m) (b := k) (by omega)
      refine az_to 0 (pc2 := 114) (lv2 := [some (az_r 6), some (az_i (((f : Nat) : Int))), some (az_i (c)), some (az_i (r)), some (az_i (((k : Nat) : Int))), some (az_i (((e0 : Nat) : Int))), some (az_i (((e1 : Nat) : Int))), some (az_i (az_b (y 12 e0 + (zln S m k) < y 12 e1))), x8]) (st2 := [az_i (zln S m k), az_i (((e0 : Nat) : Int)), az_i (((e1 : Nat) : Int)), az_r 11]) (s2 := t2) (by rw [show t2 8 k = zln S m k from (by rw [show t2 8 = s 8 from (by rw [gg2 8 (by decide)]; exact g1 8 (by decide))]; exact hL k (by omega))]; rfl) ?_
      refine az_cl (m2 := am_m_X7_shorten) (as := [az_r 11, az_i (((e1 : Nat) : Int)), az_i (((e0 : Nat) : Int)), az_i (zln S m k)]) (rest := []) 117 rfl rfl ⟨rfl, rfl⟩ (by omega) (zs_X7_shorten_11 (s := t2) (u := e1) (v := e0) (l := (zln S m k)) (by omega) (by omega) (by omega) hlk hru) (fun v3 t3 q3 => ?_) (fun E t3 q3 => by cases q3.1)
      obtain ⟨o3, ff3, gg3⟩ := q3
      cases o3
      refine az_to 0 (pc2 := 117) (lv2 := [some (az_r 6), some (az_i (((f : Nat) : Int))), some (az_i (c)), some (az_i (r)), some (az_i (((k : Nat) : Int))), some (az_i (((e0 : Nat) : Int))), some (az_i (((e1 : Nat) : Int))), some (az_i (az_b (y 12 e0 + (zln S m k) < y 12 e1))), x8]) (st2 := [az_i (az_b (t2 12 e1 + (zln S m k) < t2 12 e0))]) (s2 := t3) rfl ?_
      refine az_to 2 (pc2 := 120) (lv2 := [some (az_r 6), some (az_i (((f : Nat) : Int))), some (az_i (c)), some (az_i (r)), some (az_i (((k : Nat) : Int))), some (az_i (((e0 : Nat) : Int))), some (az_i (((e1 : Nat) : Int))), some (az_i (az_b (y 12 e0 + (zln S m k) < y 12 e1))), some (az_i (az_b (t2 12 e1 + (zln S m k) < t2 12 e0)))]) (st2 := [az_i (c)]) (s2 := t3) rfl ?_
      refine az_ifc 133 123 rfl (by decide) (by first | assumption | exact ⟨by omega, by omega⟩) (fun h4 => ?_) (fun h4 => ?_)
      · have h4 : ¬ c = 0 := h4
        refine az_to 5 (pc2 := 38) (lv2 := [some (az_r 6), some (az_i (((f : Nat) : Int))), some (az_i (1)), some (az_i (r)), some (az_i ((((k : Nat) : Int) + 1))), some (az_i (((e0 : Nat) : Int))), some (az_i (((e1 : Nat) : Int))), some (az_i (az_b (y 12 e0 + (zln S m k) < y 12 e1))), some (az_i (az_b (t2 12 e1 + (zln S m k) < t2 12 e0)))]) (st2 := []) (s2 := t3) rfl ?_
        refine ih _ (by omega) (k + 1) _ _ _ _ _ _ rfl (by omega) (fun i hi => by rw [gg3 i hi, gg2 i hi]; exact g1 i hi) ?_
        have hc01 : c = 0 ∨ c = 1 := by rcases g2.2.2.2 with q | q <;> omega
        rw [ff3, ff2]
        refine zBj_st hI hh hf (by omega) he0 he1 g2 ?_
        rw [← ff2]
        omega
      · have h4 : c = 0 := Decidable.not_not.mp h4
        refine az_to 1 (pc2 := 125) (lv2 := [some (az_r 6), some (az_i (((f : Nat) : Int))), some (az_i (c)), some (az_i (r)), some (az_i (((k : Nat) : Int))), some (az_i (((e0 : Nat) : Int))), some (az_i (((e1 : Nat) : Int))), some (az_i (az_b (y 12 e0 + (zln S m k) < y 12 e1))), some (az_i (az_b (t2 12 e1 + (zln S m k) < t2 12 e0)))]) (st2 := [az_i (az_b (y 12 e0 + (zln S m k) < y 12 e1))]) (s2 := t3) rfl ?_
        refine az_ifbn 133 128 rfl (by decide) (fun h5 => ?_) (fun h5 => ?_)
        · have h5 : y 12 e0 + (zln S m k) < y 12 e1 := h5
          refine az_to 5 (pc2 := 38) (lv2 := [some (az_r 6), some (az_i (((f : Nat) : Int))), some (az_i (1)), some (az_i (r)), some (az_i ((((k : Nat) : Int) + 1))), some (az_i (((e0 : Nat) : Int))), some (az_i (((e1 : Nat) : Int))), some (az_i (az_b (y 12 e0 + (zln S m k) < y 12 e1))), some (az_i (az_b (t2 12 e1 + (zln S m k) < t2 12 e0)))]) (st2 := []) (s2 := t3) rfl ?_
          refine ih _ (by omega) (k + 1) _ _ _ _ _ _ rfl (by omega) (fun i hi => by rw [gg3 i hi, gg2 i hi]; exact g1 i hi) ?_
          have hc01 : c = 0 ∨ c = 1 := by rcases g2.2.2.2 with q | q <;> omega
          rw [ff3, ff2]
          refine zBj_st hI hh hf (by omega) he0 he1 g2 ?_
          rw [← ff2]
          omega
        · have h5 : ¬ (y 12 e0 + (zln S m k) < y 12 e1) := h5
          refine az_to 1 (pc2 := 130) (lv2 := [some (az_r 6), some (az_i (((f : Nat) : Int))), some (az_i (c)), some (az_i (r)), some (az_i (((k : Nat) : Int))), some (az_i (((e0 : Nat) : Int))), some (az_i (((e1 : Nat) : Int))), some (az_i (az_b (y 12 e0 + (zln S m k) < y 12 e1))), some (az_i (az_b (t2 12 e1 + (zln S m k) < t2 12 e0)))]) (st2 := [az_i (az_b (t2 12 e1 + (zln S m k) < t2 12 e0))]) (s2 := t3) rfl ?_
          refine az_ifbe 137 133 rfl (by decide) (fun h6 => ?_) (fun h6 => ?_)
          · have h6 : ¬ (t2 12 e1 + (zln S m k) < t2 12 e0) := h6
            refine az_to 4 (pc2 := 38) (lv2 := [some (az_r 6), some (az_i (((f : Nat) : Int))), some (az_i (0)), some (az_i (r)), some (az_i ((((k : Nat) : Int) + 1))), some (az_i (((e0 : Nat) : Int))), some (az_i (((e1 : Nat) : Int))), some (az_i (az_b (y 12 e0 + (zln S m k) < y 12 e1))), some (az_i (az_b (t2 12 e1 + (zln S m k) < t2 12 e0)))]) (st2 := []) (s2 := t3) rfl ?_
            refine ih _ (by omega) (k + 1) _ _ _ _ _ _ rfl (by omega) (fun i hi => by rw [gg3 i hi, gg2 i hi]; exact g1 i hi) ?_
            have hc01 : c = 0 ∨ c = 1 := by rcases g2.2.2.2 with q | q <;> omega
            rw [ff3, ff2]
            refine zBj_st hI hh hf (by omega) he0 he1 g2 ?_
            rw [← ff2]
            omega
          · have h6 : t2 12 e1 + (zln S m k) < t2 12 e0 := h6
            refine az_to 5 (pc2 := 38) (lv2 := [some (az_r 6), some (az_i (((f : Nat) : Int))), some (az_i (1)), some (az_i (r)), some (az_i ((((k : Nat) : Int) + 1))), some (az_i (((e0 : Nat) : Int))), some (az_i (((e1 : Nat) : Int))), some (az_i (az_b (y 12 e0 + (zln S m k) < y 12 e1))), some (az_i (az_b (t2 12 e1 + (zln S m k) < t2 12 e0)))]) (st2 := []) (s2 := t3) rfl ?_
            refine ih _ (by omega) (k + 1) _ _ _ _ _ _ rfl (by omega) (fun i hi => by rw [gg3 i hi, gg2 i hi]; exact g1 i hi) ?_
            have hc01 : c = 0 ∨ c = 1 := by rcases g2.2.2.2 with q | q <;> omega
            rw [ff3, ff2]
            refine zBj_st hI hh hf (by omega) he0 he1 g2 ?_
            rw [← ff2]
            omega
set_option maxRecDepth 100000 in
set_option maxHeartbeats 800000 in
theorem zs_X7_reachByBridges_L23 {d : Nat} {s : az_S} (hd : 5 ≤ d) {S : zR} {h : Nat} (hR : zRel (s 3) S) (hI : zInv S h) (hh : h ≤ 10000) {m : Nat} (hL : ∀ b, b < zn S 0 → s 8 b = zln S m b) {f : Nat} (hf : f < 6) {E : Nat → Int} (hE : zgd S m f 1000 E) : ∀ (mq : Nat) (r : Nat) (u : az_S) (c : Int) (x4 : Option az_V) (x5 : Option az_V) (x6 : Option az_V) (x7 : Option az_V) (x8 : Option az_V), mq = 6 - r → (r ≤ 6) → (∀ i, i ≠ 12 → u i = s i) → (zes S m f 1000 (u 12)) → (∀ v, v < 6 → E v ≤ u 12 v) → ((∀ v, v < 6 → u 12 v = E v) ∨ (((r + 1 : Nat) : Int) ≤ zeq (u 12) E ∧ c = 1)) → (c = 0 ∨ c = 1) → az_R d am_m_X7_reachByBridges 23 [some (az_r 6), some (az_i (((f : Nat) : Int))), some (az_i (c)), some (az_i (((r : Nat) : Int))), x4, x5, x6, x7, x8] [] (u) (fun o t => o = .inl none ∧ zgd S m f 1000 (t 12) ∧ ∀ i, i ≠ 12 → t i = s i) := by
  intro mq
  induction mq using Nat.strongRecOn with
  | _ mq ih =>
    intro r u c x4 x5 x6 x7 x8 hm g0 g1 g2 g3 g4 g5
    have hz := zI_h hI hh
    have hRu : zRel (u 3) S := by rw [g1 3 (by decide)]; exact hR
    refine az_to 2 (pc2 := 26) (lv2 := [some (az_r 6), some (az_i (((f : Nat) : Int))), some (az_i (c)), some (az_i (((r : Nat) : Int))), x4, x5, x6, x7, x8]) (st2 := [az_i (6), az_i (((r : Nat) : Int))]) (s2 := u) rfl ?_
    refine az_if2 151 29 rfl (by decide) (by first | assumption | exact ⟨by omega, by omega⟩) ⟨by decide, by decide⟩ (fun h1 => ?_) (fun h1 => ?_)
    · have h1 : 6 ≤ ((r : Nat) : Int) := h1
      refine az_ret0 rfl rfl ?_
      have hall : ∀ v, v < 6 → u 12 v = E v := by
        rcases g4 with q | ⟨q, q2⟩
        · exact q
        · have := zeq_r (u 12) E
          exfalso
          omega
      exact ⟨rfl, zgd_ext hf hE hall, g1⟩
    · have h1 : ¬ (6 ≤ ((r : Nat) : Int)) := h1
      refine az_to 1 (pc2 := 30) (lv2 := [some (az_r 6), some (az_i (((f : Nat) : Int))), some (az_i (c)), some (az_i (((r : Nat) : Int))), x4, x5, x6, x7, x8]) (st2 := [az_i (c)]) (s2 := u) rfl ?_
      refine az_ifc 151 33 rfl (by decide) (by first | assumption | exact ⟨by omega, by omega⟩) (fun h2 => ?_) (fun h2 => ?_)
      · have h2 : c = 0 := h2
        refine az_ret0 rfl rfl ?_
        have hall : ∀ v, v < 6 → u 12 v = E v := by
          rcases g4 with q | ⟨q, q2⟩
          · exact q
          · have := zeq_r (u 12) E
            exfalso
            omega
        exact ⟨rfl, zgd_ext hf hE hall, g1⟩
      · have h2 : ¬ (c = 0) := h2
        refine az_to 4 (pc2 := 38) (lv2 := [some (az_r 6), some (az_i (((f : Nat) : Int))), some (az_i (0)), some (az_i (((r : Nat) : Int))), some (az_i (0)), x5, x6, x7, x8]) (st2 := []) (s2 := u) rfl ?_
        refine zs_X7_reachByBridges_in_L38 (s := u) (D0 := u 12) (by omega) hRu hI hh (fun b hb => by rw [g1 8 (by decide)]; exact hL b hb) hf (fun y c2 y4 y5 y6 y7 y8 hy1 hy2 => ?_) _ 0 _ _ _ _ _ _ rfl (by omega) (fun i _ => rfl) ⟨g2, fun v _ => Int.le_refl _, fun j _ _ hj => absurd hj (by omega), Or.inl ⟨rfl, fun v _ => rfl⟩⟩
        refine az_to 2 (pc2 := 23) (lv2 := [some (az_r 6), some (az_i (((f : Nat) : Int))), some (az_i (c2)), some (az_i ((((r : Nat) : Int) + 1))), y4, y5, y6, y7, y8]) (st2 := []) (s2 := y) rfl ?_
        have hm := zBj_more hf hE g2 g3 hy2
        refine ih _ (by omega) (r + 1) _ _ _ _ _ _ _ rfl (by omega) (fun i hi => by rw [hy1 i hi]; exact g1 i hi) hy2.1 hm.1 ?_ (by rcases hy2.2.2.2 with q | q <;> omega)
        rcases hm.2 with q | q
        · exact Or.inl q
        · rcases hy2.2.2.2 with ⟨q1, q2⟩ | ⟨q1, q2⟩
          · exfalso
            have e : zeq (y 12) E = zeq (u 12) E := zs_ext (fun v hv => by rw [q2 v hv])
            omega
          · rcases g4 with q3 | ⟨q3, q4⟩
            · left
              intro v hv
              have := hm.1 v hv
              have := hy2.2.1 v hv
              have := q3 v hv
              omega
            · right
              exact ⟨by omega, q1⟩
set_option maxRecDepth 100000 in
set_option maxHeartbeats 800000 in
theorem zs_X7_reachByBridges {d : Nat} {s : az_S} (hd : 5 ≤ d) {S : zR} {h : Nat} (hR : zRel (s 3) S) (hI : zInv S h) (hh : h ≤ 10000) {m : Nat} (hL : ∀ b, b < zn S 0 → s 8 b = zln S m b) {f : Nat} (hf : f < 6) : az_R d am_m_X7_reachByBridges 0 (az_ini (am_mL am_m_X7_reachByBridges) [az_r 6, az_i (((f : Nat) : Int))]) [] (s) (fun o t => o = .inl none ∧ zgd S m f 1000 (t 12) ∧ ∀ i, i ≠ 12 → t i = s i) := by
  have hz := zI_h hI hh
  refine az_to 0 (pc2 := 0) (lv2 := [some (az_r 6), some (az_i (((f : Nat) : Int))), none, none, none, none, none, none, none]) (st2 := []) (s2 := s) rfl ?_
  refine az_to 3 (pc2 := 7) (lv2 := [some (az_r 6), some (az_i (((f : Nat) : Int))), none, none, none, none, none, none, none]) (st2 := [az_i (1000), az_r 11]) (s2 := s) rfl ?_
  refine az_cl (m2 := am_m_X5_fill) (as := [az_r 11, az_i (1000)]) (rest := []) 10 rfl rfl ⟨rfl, rfl⟩ (by omega) (zs_X5_fill_11 (s := s) (z := 1000) (by omega) ) (fun v3 t3 q3 => ?_) (fun E t3 q3 => by cases q3.1)
  obtain ⟨o3, ff3, gg3⟩ := q3
  cases o3
  refine az_to 0 (pc2 := 10) (lv2 := [some (az_r 6), some (az_i (((f : Nat) : Int))), none, none, none, none, none, none, none]) (st2 := []) (s2 := t3) rfl ?_
  refine az_to 4 (pc2 := 16) (lv2 := [some (az_r 6), some (az_i (((f : Nat) : Int))), none, none, none, none, none, none, none]) (st2 := [az_i (0), az_i (((f : Nat) : Int)), az_r 11]) (s2 := t3) rfl ?_
  refine az_clv (v := none) (t := am_up t3 12 f 0) (m2 := am_m_X5_put) (as := [az_r 11, az_i (((f : Nat) : Int)), az_i (0)]) (rest := []) 19 rfl rfl ⟨rfl, rfl⟩ (by omega) (zs_X5_put_11 (s := t3) (k := f) (v := 0) (by omega) (by omega)) ?_
  refine az_to 0 (pc2 := 19) (lv2 := [some (az_r 6), some (az_i (((f : Nat) : Int))), none, none, none, none, none, none, none]) (st2 := []) (s2 := am_up t3 12 f 0) rfl ?_
  refine az_to 4 (pc2 := 23) (lv2 := [some (az_r 6), some (az_i (((f : Nat) : Int))), some (az_i (1)), some (az_i (0)), none, none, none, none, none]) (st2 := []) (s2 := am_up t3 12 f 0) rfl ?_
  have hD : ∀ v, v < 6 → am_up t3 12 f 0 12 v = if v = f then 0 else 1000 := fun v hv => by
    simp only [am_up, if_true]
    by_cases q : v = f
    · rw [if_pos q, if_pos q]
    · rw [if_neg q, if_neg q]; exact ff3 v hv
  obtain ⟨E, hE⟩ : ∃ E, zgd S m f 1000 E := by
    obtain ⟨_, _, t9, _, q9⟩ := zs_X7_reachByLands (d := 5) (s := s) (by omega) hR hI hh hL hf 0 (fun _ => 0) (fun i => am_sx[i]?) (fun _ _ w => w) [] (fun _ _ => 0) (fun _ _ => 0)
    exact ⟨_, q9.2.1⟩
  have hz9 := zes_0 (S := S) (m := m) (T := 1000) (by decide) hf hD
  refine zs_X7_reachByBridges_L23 (by omega) hR hI hh hL hf hE _ 0 _ _ _ _ _ _ _ rfl (by omega) (fun i hi => ?_) hz9 (fun v hv => ?_) (Or.inr ⟨?_, rfl⟩) (Or.inr rfl)
  · rw [← gg3 i hi]
    funext x
    simp only [am_up, if_neg hi]
  · rw [hD v hv]
    by_cases q : v = f
    · rw [if_pos q, q, hE.1]; exact Int.le_refl _
    · rw [if_neg q]; exact (hE.2.1 v hv).2
  · have q := zs_mem (n := 6) (f := fun v => az_b (am_up t3 12 f 0 12 v = E v)) (fun v _ => by unfold az_b; split <;> decide) f hf
    rw [az_b1 (by rw [hD f hf, if_pos rfl, hE.1])] at q
    exact q

