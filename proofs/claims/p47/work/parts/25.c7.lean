/-! CLASS, 7: ways told, hanging; written by program (wip/tools/zg/s7.py) -/
/-- the least length from f to v, 1000 for none -/
noncomputable def zdi (S : zR) (m f v : Nat) : Int := by
  classical
  exact if h : ∃ D, zgd S m f 1000 D then (Classical.choose h) v else 1000
theorem zdi_g {S : zR} {m f : Nat} {D : Nat → Int} (hD : zgd S m f 1000 D) : zgd S m f 1000 (zdi S m f) := by
  have h : ∃ D, zgd S m f 1000 D := ⟨D, hD⟩
  have e : zdi S m f = Classical.choose h := by
    funext v
    unfold zdi
    rw [dif_pos h]
  rw [e]
  exact Classical.choose_spec h
theorem zdi_eq {S : zR} {h : Nat} (hI : zInv S h) (hh : h ≤ 10000) {m f : Nat} (hf : f < 6) {D : Nat → Int} (hD : zgd S m f 1000 D) {v : Nat} (hv : v < 6) : D v = zdi S m f v := by
  rcases zgd_one hI hh hf (by omega) (by omega) hD (zdi_g hD) hv with q | q <;> omega
theorem zdi_r {S : zR} {h : Nat} (hI : zInv S h) (hh : h ≤ 10000) {m f : Nat} (hf : f < 6) {T : Int} (hT : 135 < T) {D : Nat → Int} (hD : zgd S m f T D) (h0 : ∃ E, zgd S m f 1000 E) {v : Nat} (hv : v < 6) : (D v = T ∧ zdi S m f v = 1000) ∨ (D v = zdi S m f v ∧ 0 ≤ D v ∧ D v ≤ 135 ∧ D v < T) := by
  obtain ⟨E, hE⟩ := h0
  have k := hD.2.1 v hv
  rcases zgd_one hI hh hf hT (by omega) hD (zdi_g hE) hv with q | q
  · exact Or.inl q
  · exact Or.inr ⟨q.1, k.1, by omega, q.2.1⟩
/-- what a way costs or takes, -1 for none -/
noncomputable def zwy (S : zR) (m f v : Nat) : Int := if zdi S m f v = 1000 then -1 else zdi S m f v
/-- the bridge by which a land is reached the fastest from another, -1 for none; the land on which a land hangs -/
noncomputable def zlf (S : zR) (f u v : Nat) : Int := zf (zn S 0) (fun b => decide (zdi S 1 f u + ztk S b = zdi S 1 f v ∧ zac S b u = ((v : Nat) : Int)))
noncomputable def zhg (S : zR) (f v : Nat) : Int := zf 6 (fun u => decide (0 ≤ zlf S f u v))
set_option maxRecDepth 100000 in
set_option maxHeartbeats 800000 in
theorem zs_X7_landByLand {d : Nat} {s : az_S} (hd : 6 ≤ d) {S : zR} {h : Nat} (hR : zRel (s 3) S) (hI : zInv S h) (hh : h ≤ 10000) {m : Nat} (hL : ∀ b, b < zn S 0 → s 8 b = zln S m b) {f : Nat} (hf : f < 6) {v : Nat} (hv : v < 6) : az_R d am_m_X7_landByLand 0 (az_ini (am_mL am_m_X7_landByLand) [az_r 6, az_i (((f : Nat) : Int)), az_i (((v : Nat) : Int))]) [] (s) (fun o t => o = .inl (some (az_i (zwy S m f v))) ∧ zgd S m f 1000 (t 10) ∧ ∀ i, i ≠ 10 → i ≠ 14 → t i = s i) := by
  refine az_to 0 (pc2 := 0) (lv2 := [some (az_r 6), some (az_i (((f : Nat) : Int))), some (az_i (((v : Nat) : Int)))]) (st2 := []) (s2 := s) rfl ?_
  refine az_to 2 (pc2 := 2) (lv2 := [some (az_r 6), some (az_i (((f : Nat) : Int))), some (az_i (((v : Nat) : Int)))]) (st2 := [az_i (((f : Nat) : Int)), az_r 6]) (s2 := s) rfl ?_
  refine az_cl (m2 := am_m_X7_reachByLands) (as := [az_r 6, az_i (((f : Nat) : Int))]) (rest := []) 5 rfl rfl ⟨rfl, rfl⟩ (by omega) (zs_X7_reachByLands (s := s) (f := f) (by omega) hR hI hh hL (by omega)) (fun v1 t1 q1 => ?_) (fun E t1 q1 => by cases q1.1)
  obtain ⟨o1, ff1, gg1⟩ := q1
  cases o1
  refine az_to 0 (pc2 := 5) (lv2 := [some (az_r 6), some (az_i (((f : Nat) : Int))), some (az_i (((v : Nat) : Int)))]) (st2 := []) (s2 := t1) rfl ?_
  have hdi := fun v hv => zdi_eq hI hh hf ff1 (v := v) hv
  have hrr := ff1.2.1 v hv
  have hdv := hdi v hv
  refine az_to 3 (pc2 := 10) (lv2 := [some (az_r 6), some (az_i (((f : Nat) : Int))), some (az_i (((v : Nat) : Int)))]) (st2 := [az_i (((v : Nat) : Int)), az_r 9]) (s2 := t1) rfl ?_
  refine az_clv (v := some (az_i (t1 10 v))) (t := t1) (m2 := am_m_X5_at) (as := [az_r 9, az_i (((v : Nat) : Int))]) (rest := []) 13 rfl rfl ⟨rfl, rfl⟩ (by omega) (zs_X5_at_9 (s := t1) (k := v) (by omega) (by omega)) ?_
  refine az_to 0 (pc2 := 13) (lv2 := [some (az_r 6), some (az_i (((f : Nat) : Int))), some (az_i (((v : Nat) : Int)))]) (st2 := [az_i (t1 10 v)]) (s2 := t1) rfl ?_
  refine az_to 0 (pc2 := 13) (lv2 := [some (az_r 6), some (az_i (((f : Nat) : Int))), some (az_i (((v : Nat) : Int)))]) (st2 := [az_i (zdi S m f v)]) (s2 := t1) (by rw [show t1 10 v = zdi S m f v from hdi v hv]; rfl) ?_
  refine az_to 1 (pc2 := 16) (lv2 := [some (az_r 6), some (az_i (((f : Nat) : Int))), some (az_i (((v : Nat) : Int)))]) (st2 := [az_i (1000), az_i (zdi S m f v)]) (s2 := t1) rfl ?_
  refine az_if2 23 19 rfl (by decide) (by first | assumption | exact ⟨by omega, by omega⟩) ⟨by decide, by decide⟩ (fun h2 => ?_) (fun h2 => ?_)
  · have h2 : ¬ zdi S m f v = 1000 := h2
    refine az_to 3 (pc2 := 28) (lv2 := [some (az_r 6), some (az_i (((f : Nat) : Int))), some (az_i (((v : Nat) : Int)))]) (st2 := [az_i (((v : Nat) : Int)), az_r 9]) (s2 := t1) rfl ?_
    refine az_clv (v := some (az_i (t1 10 v))) (t := t1) (m2 := am_m_X5_at) (as := [az_r 9, az_i (((v : Nat) : Int))]) (rest := []) 31 rfl rfl ⟨rfl, rfl⟩ (by omega) (zs_X5_at_9 (s := t1) (k := v) (by omega) (by omega)) ?_
    refine az_to 0 (pc2 := 31) (lv2 := [some (az_r 6), some (az_i (((f : Nat) : Int))), some (az_i (((v : Nat) : Int)))]) (st2 := [az_i (t1 10 v)]) (s2 := t1) rfl ?_
    refine az_to 0 (pc2 := 31) (lv2 := [some (az_r 6), some (az_i (((f : Nat) : Int))), some (az_i (((v : Nat) : Int)))]) (st2 := [az_i (zdi S m f v)]) (s2 := t1) (by rw [show t1 10 v = zdi S m f v from hdi v hv]; rfl) ?_
    refine az_retI rfl rfl ?_
    exact ⟨by unfold zwy; first | rw [if_pos (by assumption)] | rw [if_neg (by assumption)], ff1, gg1⟩
  · have h2 : zdi S m f v = 1000 := Decidable.not_not.mp h2
    refine az_to 2 (pc2 := 31) (lv2 := [some (az_r 6), some (az_i (((f : Nat) : Int))), some (az_i (((v : Nat) : Int)))]) (st2 := [az_i (-1)]) (s2 := t1) rfl ?_
    refine az_retI rfl rfl ?_
    exact ⟨by unfold zwy; first | rw [if_pos (by assumption)] | rw [if_neg (by assumption)], ff1, gg1⟩
set_option maxRecDepth 100000 in
set_option maxHeartbeats 800000 in
theorem zs_X7_bridgeByBridge {d : Nat} {s : az_S} (hd : 6 ≤ d) {S : zR} {h : Nat} (hR : zRel (s 3) S) (hI : zInv S h) (hh : h ≤ 10000) {m : Nat} (hL : ∀ b, b < zn S 0 → s 8 b = zln S m b) {f : Nat} (hf : f < 6) {v : Nat} (hv : v < 6) : az_R d am_m_X7_bridgeByBridge 0 (az_ini (am_mL am_m_X7_bridgeByBridge) [az_r 6, az_i (((f : Nat) : Int)), az_i (((v : Nat) : Int))]) [] (s) (fun o t => o = .inl (some (az_i (zwy S m f v))) ∧ zgd S m f 1000 (t 12) ∧ ∀ i, i ≠ 12 → t i = s i) := by
  refine az_to 0 (pc2 := 0) (lv2 := [some (az_r 6), some (az_i (((f : Nat) : Int))), some (az_i (((v : Nat) : Int)))]) (st2 := []) (s2 := s) rfl ?_
  refine az_to 2 (pc2 := 2) (lv2 := [some (az_r 6), some (az_i (((f : Nat) : Int))), some (az_i (((v : Nat) : Int)))]) (st2 := [az_i (((f : Nat) : Int)), az_r 6]) (s2 := s) rfl ?_
  refine az_cl (m2 := am_m_X7_reachByBridges) (as := [az_r 6, az_i (((f : Nat) : Int))]) (rest := []) 5 rfl rfl ⟨rfl, rfl⟩ (by omega) (zs_X7_reachByBridges (s := s) (f := f) (by omega) hR hI hh hL (by omega)) (fun v1 t1 q1 => ?_) (fun E t1 q1 => by cases q1.1)
  obtain ⟨o1, ff1, gg1⟩ := q1
  cases o1
  refine az_to 0 (pc2 := 5) (lv2 := [some (az_r 6), some (az_i (((f : Nat) : Int))), some (az_i (((v : Nat) : Int)))]) (st2 := []) (s2 := t1) rfl ?_
  have hdi := fun v hv => zdi_eq hI hh hf ff1 (v := v) hv
  have hrr := ff1.2.1 v hv
  have hdv := hdi v hv
  refine az_to 3 (pc2 := 10) (lv2 := [some (az_r 6), some (az_i (((f : Nat) : Int))), some (az_i (((v : Nat) : Int)))]) (st2 := [az_i (((v : Nat) : Int)), az_r 11]) (s2 := t1) rfl ?_
  refine az_clv (v := some (az_i (t1 12 v))) (t := t1) (m2 := am_m_X5_at) (as := [az_r 11, az_i (((v : Nat) : Int))]) (rest := []) 13 rfl rfl ⟨rfl, rfl⟩ (by omega) (zs_X5_at_11 (s := t1) (k := v) (by omega) (by omega)) ?_
  refine az_to 0 (pc2 := 13) (lv2 := [some (az_r 6), some (az_i (((f : Nat) : Int))), some (az_i (((v : Nat) : Int)))]) (st2 := [az_i (t1 12 v)]) (s2 := t1) rfl ?_
  refine az_to 0 (pc2 := 13) (lv2 := [some (az_r 6), some (az_i (((f : Nat) : Int))), some (az_i (((v : Nat) : Int)))]) (st2 := [az_i (zdi S m f v)]) (s2 := t1) (by rw [show t1 12 v = zdi S m f v from hdi v hv]; rfl) ?_
  refine az_to 1 (pc2 := 16) (lv2 := [some (az_r 6), some (az_i (((f : Nat) : Int))), some (az_i (((v : Nat) : Int)))]) (st2 := [az_i (1000), az_i (zdi S m f v)]) (s2 := t1) rfl ?_
  refine az_if2 23 19 rfl (by decide) (by first | assumption | exact ⟨by omega, by omega⟩) ⟨by decide, by decide⟩ (fun h2 => ?_) (fun h2 => ?_)
  · have h2 : ¬ zdi S m f v = 1000 := h2
    refine az_to 3 (pc2 := 28) (lv2 := [some (az_r 6), some (az_i (((f : Nat) : Int))), some (az_i (((v : Nat) : Int)))]) (st2 := [az_i (((v : Nat) : Int)), az_r 11]) (s2 := t1) rfl ?_
    refine az_clv (v := some (az_i (t1 12 v))) (t := t1) (m2 := am_m_X5_at) (as := [az_r 11, az_i (((v : Nat) : Int))]) (rest := []) 31 rfl rfl ⟨rfl, rfl⟩ (by omega) (zs_X5_at_11 (s := t1) (k := v) (by omega) (by omega)) ?_
    refine az_to 0 (pc2 := 31) (lv2 := [some (az_r 6), some (az_i (((f : Nat) : Int))), some (az_i (((v : Nat) : Int)))]) (st2 := [az_i (t1 12 v)]) (s2 := t1) rfl ?_
    refine az_to 0 (pc2 := 31) (lv2 := [some (az_r 6), some (az_i (((f : Nat) : Int))), some (az_i (((v : Nat) : Int)))]) (st2 := [az_i (zdi S m f v)]) (s2 := t1) (by rw [show t1 12 v = zdi S m f v from hdi v hv]; rfl) ?_
    refine az_retI rfl rfl ?_
    exact ⟨by unfold zwy; first | rw [if_pos (by assumption)] | rw [if_neg (by assumption)], ff1, gg1⟩
  · have h2 : zdi S m f v = 1000 := Decidable.not_not.mp h2
    refine az_to 2 (pc2 := 31) (lv2 := [some (az_r 6), some (az_i (((f : Nat) : Int))), some (az_i (((v : Nat) : Int)))]) (st2 := [az_i (-1)]) (s2 := t1) rfl ?_
    refine az_retI rfl rfl ?_
    exact ⟨by unfold zwy; first | rw [if_pos (by assumption)] | rw [if_neg (by assumption)], ff1, gg1⟩
set_option maxRecDepth 100000 in
set_option maxHeartbeats 800000 in
theorem zs_X7_leadsFastest_L2 {d : Nat} {s : az_S} (hd : 3 ≤ d) {S : zR} {h : Nat} (hR : zRel (s 3) S) (hI : zInv S h) (hh : h ≤ 10000) (hL : ∀ b, b < zn S 0 → s 8 b = zln S 1 b) {f : Nat} (hf : f < 6) (hD : zgd S 1 f 1000 (s 10)) {u v : Nat} (hu : u < 6) (hv : v < 6) : ∀ (mq : Nat) (k : Nat) (x4 : Option az_V), mq = zn S 0 - k → (k ≤ zn S 0) → (∀ i, i < k → ¬ (zdi S 1 f u + ztk S i = zdi S 1 f v ∧ zac S i u = ((v : Nat) : Int))) → az_R d am_m_X7_leadsFastest 2 [some (az_r 6), some (az_i (((u : Nat) : Int))), some (az_i (((v : Nat) : Int))), some (az_i (((k : Nat) : Int))), x4] [] (s) (az_ret (some (az_i (az_b (0 ≤ zlf S f u v)))) (s)) := by
  intro mq
  induction mq using Nat.strongRecOn with
  | _ mq ih =>
    intro k x4 hm g0 g1
    have hz := zI_h hI hh
    have hdu := zdi_eq hI hh hf hD hu
    have hdv := zdi_eq hI hh hf hD hv
    have hru := hD.2.1 u hu
    have hrv := hD.2.1 v hv
    refine az_to 4 (pc2 := 8) (lv2 := [some (az_r 6), some (az_i (((u : Nat) : Int))), some (az_i (((v : Nat) : Int))), some (az_i (((k : Nat) : Int))), x4]) (st2 := [az_i (2), az_r 1, az_i (((k : Nat) : Int))]) (s2 := s) rfl ?_
    refine az_clv (v := some (az_i (((zn S 0 : Nat) : Int)))) (t := s) (m2 := am_m_X8_of) (as := [az_r 1, az_i (2)]) (rest := [az_i (((k : Nat) : Int))]) 11 rfl rfl ⟨rfl, rfl⟩ (by omega) (zs_X8_of_2 (s := s)  (by omega) hR hI hh) ?_
    refine az_to 0 (pc2 := 11) (lv2 := [some (az_r 6), some (az_i (((u : Nat) : Int))), some (az_i (((v : Nat) : Int))), some (az_i (((k : Nat) : Int))), x4]) (st2 := [az_i (((zn S 0 : Nat) : Int)), az_i (((k : Nat) : Int))]) (s2 := s) rfl ?_
    refine az_if2 75 14 rfl (by decide) (by first | assumption | exact ⟨by omega, by omega⟩) (by first | assumption | exact ⟨by omega, by omega⟩) (fun h1 => ?_) (fun h1 => ?_)
    · have h1 : ((zn S 0 : Nat) : Int) ≤ ((k : Nat) : Int) := h1
      refine az_to 1 (pc2 := 76) (lv2 := [some (az_r 6), some (az_i (((u : Nat) : Int))), some (az_i (((v : Nat) : Int))), some (az_i (((k : Nat) : Int))), x4]) (st2 := [az_i (0)]) (s2 := s) rfl ?_
      refine az_retB rfl rfl (by first | decide | omega | exact Or.inl rfl | exact Or.inr rfl) ?_
      have e : zlf S f u v = -1 := by
        unfold zlf
        refine zf_none _ _ (fun i hi => ?_)
        rw [decide_eq_false_iff_not]
        exact g1 i (by omega)
      exact ⟨by rw [az_b0 (by omega)], rfl⟩
    · have h1 : ¬ (((zn S 0 : Nat) : Int) ≤ ((k : Nat) : Int)) := h1
      refine az_to 3 (pc2 := 19) (lv2 := [some (az_r 6), some (az_i (((u : Nat) : Int))), some (az_i (((v : Nat) : Int))), some (az_i (((k : Nat) : Int))), x4]) (st2 := [az_i (((u : Nat) : Int)), az_r 9]) (s2 := s) rfl ?_
      refine az_clv (v := some (az_i (s 10 u))) (t := s) (m2 := am_m_X5_at) (as := [az_r 9, az_i (((u : Nat) : Int))]) (rest := []) 22 rfl rfl ⟨rfl, rfl⟩ (by omega) (zs_X5_at_9 (s := s) (k := u) (by omega) (by omega)) ?_
      refine az_to 0 (pc2 := 22) (lv2 := [some (az_r 6), some (az_i (((u : Nat) : Int))), some (az_i (((v : Nat) : Int))), some (az_i (((k : Nat) : Int))), x4]) (st2 := [az_i (s 10 u)]) (s2 := s) rfl ?_
      refine az_to 0 (pc2 := 22) (lv2 := [some (az_r 6), some (az_i (((u : Nat) : Int))), some (az_i (((v : Nat) : Int))), some (az_i (((k : Nat) : Int))), x4]) (st2 := [az_i (zdi S 1 f u)]) (s2 := s) (by rw [show s 10 u = zdi S 1 f u from zdi_eq hI hh hf hD (by omega)]; rfl) ?_
      refine az_to 3 (pc2 := 27) (lv2 := [some (az_r 6), some (az_i (((u : Nat) : Int))), some (az_i (((v : Nat) : Int))), some (az_i (((k : Nat) : Int))), x4]) (st2 := [az_i (((k : Nat) : Int)), az_r 7, az_i (zdi S 1 f u)]) (s2 := s) rfl ?_
      refine az_clv (v := some (az_i (s 8 k))) (t := s) (m2 := am_m_X5_at) (as := [az_r 7, az_i (((k : Nat) : Int))]) (rest := [az_i (zdi S 1 f u)]) 30 rfl rfl ⟨rfl, rfl⟩ (by omega) (zs_X5_at_7 (s := s) (k := k) (by omega) (by omega)) ?_
      refine az_to 0 (pc2 := 30) (lv2 := [some (az_r 6), some (az_i (((u : Nat) : Int))), some (az_i (((v : Nat) : Int))), some (az_i (((k : Nat) : Int))), x4]) (st2 := [az_i (s 8 k), az_i (zdi S 1 f u)]) (s2 := s) rfl ?_
      have hlk := ztk_r hI hh (b := k) (by omega)
      refine az_to 0 (pc2 := 30) (lv2 := [some (az_r 6), some (az_i (((u : Nat) : Int))), some (az_i (((v : Nat) : Int))), some (az_i (((k : Nat) : Int))), x4]) (st2 := [az_i (ztk S k), az_i (zdi S 1 f u)]) (s2 := s) (by rw [show s 8 k = ztk S k from hL k (by omega)]; rfl) ?_
      refine az_to 4 (pc2 := 36) (lv2 := [some (az_r 6), some (az_i (((u : Nat) : Int))), some (az_i (((v : Nat) : Int))), some (az_i (((k : Nat) : Int))), x4]) (st2 := [az_i (((v : Nat) : Int)), az_r 9, az_i ((zdi S 1 f u + ztk S k))]) (s2 := s) rfl ?_
      refine az_clv (v := some (az_i (s 10 v))) (t := s) (m2 := am_m_X5_at) (as := [az_r 9, az_i (((v : Nat) : Int))]) (rest := [az_i ((zdi S 1 f u + ztk S k))]) 39 rfl rfl ⟨rfl, rfl⟩ (by omega) (zs_X5_at_9 (s := s) (k := v) (by omega) (by omega)) ?_
      refine az_to 0 (pc2 := 39) (lv2 := [some (az_r 6), some (az_i (((u : Nat) : Int))), some (az_i (((v : Nat) : Int))), some (az_i (((k : Nat) : Int))), x4]) (st2 := [az_i (s 10 v), az_i ((zdi S 1 f u + ztk S k))]) (s2 := s) rfl ?_
      refine az_to 0 (pc2 := 39) (lv2 := [some (az_r 6), some (az_i (((u : Nat) : Int))), some (az_i (((v : Nat) : Int))), some (az_i (((k : Nat) : Int))), x4]) (st2 := [az_i (zdi S 1 f v), az_i ((zdi S 1 f u + ztk S k))]) (s2 := s) (by rw [show s 10 v = zdi S 1 f v from zdi_eq hI hh hf hD (by omega)]; rfl) ?_
      refine az_if2 46 42 rfl (by decide) (by first | assumption | exact ⟨by omega, by omega⟩) (by first | assumption | exact ⟨by omega, by omega⟩) (fun h2 => ?_) (fun h2 => ?_)
      · have h2 : ¬ (zdi S 1 f u + ztk S k) = zdi S 1 f v := h2
        refine az_to 3 (pc2 := 51) (lv2 := [some (az_r 6), some (az_i (((u : Nat) : Int))), some (az_i (((v : Nat) : Int))), some (az_i (((k : Nat) : Int))), some (az_i (0))]) (st2 := [az_i (0)]) (s2 := s) rfl ?_
        refine az_ifc 69 54 rfl (by decide) ⟨by decide, by decide⟩ (fun _ => ?_) (fun h => absurd (show az_cnd _ _ _ by unfold az_cnd; decide) h)
        refine az_to 2 (pc2 := 2) (lv2 := [some (az_r 6), some (az_i (((u : Nat) : Int))), some (az_i (((v : Nat) : Int))), some (az_i ((((k : Nat) : Int) + 1))), some (az_i (0))]) (st2 := []) (s2 := s) rfl ?_
        exact ih _ (by omega) (k + 1) _ rfl (by omega) (fun i hi => by
          by_cases q : i = k
          · rw [q]; intro q2; first | exact absurd q2.1 (by assumption) | exact absurd q2.2 (by assumption)
          · exact g1 i (by omega))
      · have h2 : (zdi S 1 f u + ztk S k) = zdi S 1 f v := Decidable.not_not.mp h2
        refine az_to 4 (pc2 := 51) (lv2 := [some (az_r 6), some (az_i (((u : Nat) : Int))), some (az_i (((v : Nat) : Int))), some (az_i (((k : Nat) : Int))), some (az_i (1))]) (st2 := [az_i (1)]) (s2 := s) rfl ?_
        refine az_ifc 69 54 rfl (by decide) ⟨by decide, by decide⟩ (fun h => absurd h (by unfold az_cnd; decide)) (fun _ => ?_)
        refine az_to 4 (pc2 := 60) (lv2 := [some (az_r 6), some (az_i (((u : Nat) : Int))), some (az_i (((v : Nat) : Int))), some (az_i (((k : Nat) : Int))), some (az_i (1))]) (st2 := [az_i (((u : Nat) : Int)), az_i (((k : Nat) : Int)), az_r 1]) (s2 := s) rfl ?_
        refine az_clv (v := some (az_i (zac S k (((u : Nat) : Int))))) (t := s) (m2 := am_m_X8_across) (as := [az_r 1, az_i (((k : Nat) : Int)), az_i (((u : Nat) : Int))]) (rest := []) 63 rfl rfl ⟨rfl, rfl⟩ (by omega) (zs_X8_across (s := s) (b := k) (l := (((u : Nat) : Int))) (by omega) hR hI hh (by omega) (by first | assumption | exact ⟨by omega, by omega⟩)) ?_
        refine az_to 0 (pc2 := 63) (lv2 := [some (az_r 6), some (az_i (((u : Nat) : Int))), some (az_i (((v : Nat) : Int))), some (az_i (((k : Nat) : Int))), some (az_i (1))]) (st2 := [az_i (zac S k (((u : Nat) : Int)))]) (s2 := s) rfl ?_
        have hzc := zac_ed hI hh (b := k) (w := u) (by omega) hu
        refine az_to 1 (pc2 := 64) (lv2 := [some (az_r 6), some (az_i (((u : Nat) : Int))), some (az_i (((v : Nat) : Int))), some (az_i (((k : Nat) : Int))), some (az_i (1))]) (st2 := [az_i (((v : Nat) : Int)), az_i (zac S k (((u : Nat) : Int)))]) (s2 := s) rfl ?_
        refine az_if2 69 67 rfl (by decide) (by first | assumption | exact ⟨by omega, by omega⟩) (by first | assumption | exact ⟨by omega, by omega⟩) (fun h3 => ?_) (fun h3 => ?_)
        · have h3 : ¬ zac S k (((u : Nat) : Int)) = ((v : Nat) : Int) := h3
          refine az_to 2 (pc2 := 2) (lv2 := [some (az_r 6), some (az_i (((u : Nat) : Int))), some (az_i (((v : Nat) : Int))), some (az_i ((((k : Nat) : Int) + 1))), some (az_i (1))]) (st2 := []) (s2 := s) rfl ?_
          exact ih _ (by omega) (k + 1) _ rfl (by omega) (fun i hi => by
            by_cases q : i = k
            · rw [q]; intro q2; first | exact absurd q2.1 (by assumption) | exact absurd q2.2 (by assumption)
            · exact g1 i (by omega))
        · have h3 : zac S k (((u : Nat) : Int)) = ((v : Nat) : Int) := Decidable.not_not.mp h3
          refine az_to 1 (pc2 := 68) (lv2 := [some (az_r 6), some (az_i (((u : Nat) : Int))), some (az_i (((v : Nat) : Int))), some (az_i (((k : Nat) : Int))), some (az_i (1))]) (st2 := [az_i (1)]) (s2 := s) rfl ?_
          refine az_retB rfl rfl (by first | decide | omega | exact Or.inl rfl | exact Or.inr rfl) ?_
          have e : zlf S f u v = ((k : Nat) : Int) := by
            unfold zlf
            refine zf_first _ _ k (by omega) (by rw [decide_eq_true_eq]; exact ⟨by assumption, by assumption⟩) (fun i hi => ?_)
            rw [decide_eq_false_iff_not]
            exact g1 i hi
          exact ⟨by rw [az_b1 (by omega)], rfl⟩
set_option maxRecDepth 100000 in
set_option maxHeartbeats 800000 in
theorem zs_X7_leadsFastest {d : Nat} {s : az_S} (hd : 3 ≤ d) {S : zR} {h : Nat} (hR : zRel (s 3) S) (hI : zInv S h) (hh : h ≤ 10000) (hL : ∀ b, b < zn S 0 → s 8 b = zln S 1 b) {f : Nat} (hf : f < 6) (hD : zgd S 1 f 1000 (s 10)) {u v : Nat} (hu : u < 6) (hv : v < 6) : az_R d am_m_X7_leadsFastest 0 (az_ini (am_mL am_m_X7_leadsFastest) [az_r 6, az_i (((u : Nat) : Int)), az_i (((v : Nat) : Int))]) [] (s) (az_ret (some (az_i (az_b (0 ≤ zlf S f u v)))) (s)) := by
  have hz := zI_h hI hh
  have hdu := zdi_eq hI hh hf hD hu
  have hdv := zdi_eq hI hh hf hD hv
  have hru := hD.2.1 u hu
  have hrv := hD.2.1 v hv
  refine az_to 0 (pc2 := 0) (lv2 := [some (az_r 6), some (az_i (((u : Nat) : Int))), some (az_i (((v : Nat) : Int))), none, none]) (st2 := []) (s2 := s) rfl ?_
  refine az_to 2 (pc2 := 2) (lv2 := [some (az_r 6), some (az_i (((u : Nat) : Int))), some (az_i (((v : Nat) : Int))), some (az_i (0)), none]) (st2 := []) (s2 := s) rfl ?_
  exact zs_X7_leadsFastest_L2 (by omega) hR hI hh hL hf hD hu hv _ 0 _ rfl (by omega) (fun i hi => absurd hi (by omega))
set_option maxRecDepth 100000 in
set_option maxHeartbeats 800000 in
theorem zs_X7_hanger_L2 {d : Nat} {s : az_S} (hd : 4 ≤ d) {S : zR} {h : Nat} (hR : zRel (s 3) S) (hI : zInv S h) (hh : h ≤ 10000) (hL : ∀ b, b < zn S 0 → s 8 b = zln S 1 b) {f : Nat} (hf : f < 6) (hD : zgd S 1 f 1000 (s 10)) {v : Nat} (hv : v < 6) : ∀ (mq : Nat) (k : Nat), mq = 6 - k → (k ≤ 6) → (∀ i, i < k → ¬ 0 ≤ zlf S f i v) → az_R d am_m_X7_hanger 2 [some (az_r 6), some (az_i (((v : Nat) : Int))), some (az_i (((k : Nat) : Int)))] [] (s) (az_ret (some (az_i (zhg S f v))) (s)) := by
  intro mq
  induction mq using Nat.strongRecOn with
  | _ mq ih =>
    intro k hm g0 g1
    refine az_to 2 (pc2 := 5) (lv2 := [some (az_r 6), some (az_i (((v : Nat) : Int))), some (az_i (((k : Nat) : Int)))]) (st2 := [az_i (6), az_i (((k : Nat) : Int))]) (s2 := s) rfl ?_
    refine az_if2 25 8 rfl (by decide) (by first | assumption | exact ⟨by omega, by omega⟩) ⟨by decide, by decide⟩ (fun h1 => ?_) (fun h1 => ?_)
    · have h1 : 6 ≤ ((k : Nat) : Int) := h1
      refine az_to 1 (pc2 := 26) (lv2 := [some (az_r 6), some (az_i (((v : Nat) : Int))), some (az_i (((k : Nat) : Int)))]) (st2 := [az_i (-1)]) (s2 := s) rfl ?_
      refine az_retI rfl rfl ?_
      have e : zhg S f v = -1 := by
        unfold zhg
        refine zf_none _ _ (fun i hi => ?_)
        rw [decide_eq_false_iff_not]
        exact g1 i (by omega)
      exact ⟨by rw [e], rfl⟩
    · have h1 : ¬ (6 ≤ ((k : Nat) : Int)) := h1
      refine az_to 3 (pc2 := 11) (lv2 := [some (az_r 6), some (az_i (((v : Nat) : Int))), some (az_i (((k : Nat) : Int)))]) (st2 := [az_i (((v : Nat) : Int)), az_i (((k : Nat) : Int)), az_r 6]) (s2 := s) rfl ?_
      refine az_clv (v := some (az_i (az_b (0 ≤ zlf S f k v)))) (t := s) (m2 := am_m_X7_leadsFastest) (as := [az_r 6, az_i (((k : Nat) : Int)), az_i (((v : Nat) : Int))]) (rest := []) 14 rfl rfl ⟨rfl, rfl⟩ (by omega) (zs_X7_leadsFastest (s := s) (u := k) (v := v) (by omega) hR hI hh hL hf hD (by omega) (by omega)) ?_
      refine az_to 0 (pc2 := 14) (lv2 := [some (az_r 6), some (az_i (((v : Nat) : Int))), some (az_i (((k : Nat) : Int)))]) (st2 := [az_i (az_b (0 ≤ zlf S f k v))]) (s2 := s) rfl ?_
      refine az_ifbe 19 17 rfl (by decide) (fun h2 => ?_) (fun h2 => ?_)
      · have h2 : ¬ (0 ≤ zlf S f k v) := h2
        refine az_to 2 (pc2 := 2) (lv2 := [some (az_r 6), some (az_i (((v : Nat) : Int))), some (az_i ((((k : Nat) : Int) + 1)))]) (st2 := []) (s2 := s) rfl ?_
        exact ih _ (by omega) (k + 1) rfl (by omega) (fun i hi => by
          by_cases q : i = k
          · rw [q]; assumption
          · exact g1 i (by omega))
      · have h2 : 0 ≤ zlf S f k v := h2
        refine az_to 1 (pc2 := 18) (lv2 := [some (az_r 6), some (az_i (((v : Nat) : Int))), some (az_i (((k : Nat) : Int)))]) (st2 := [az_i (((k : Nat) : Int))]) (s2 := s) rfl ?_
        refine az_retI rfl rfl ?_
        have e : zhg S f v = ((k : Nat) : Int) := by
          unfold zhg
          refine zf_first _ _ k (by omega) (by rw [decide_eq_true_eq]; assumption) (fun i hi => ?_)
          rw [decide_eq_false_iff_not]
          exact g1 i hi
        exact ⟨by rw [e], rfl⟩
set_option maxRecDepth 100000 in
set_option maxHeartbeats 800000 in
theorem zs_X7_hanger {d : Nat} {s : az_S} (hd : 4 ≤ d) {S : zR} {h : Nat} (hR : zRel (s 3) S) (hI : zInv S h) (hh : h ≤ 10000) (hL : ∀ b, b < zn S 0 → s 8 b = zln S 1 b) {f : Nat} (hf : f < 6) (hD : zgd S 1 f 1000 (s 10)) {v : Nat} (hv : v < 6) : az_R d am_m_X7_hanger 0 (az_ini (am_mL am_m_X7_hanger) [az_r 6, az_i (((v : Nat) : Int))]) [] (s) (az_ret (some (az_i (zhg S f v))) (s)) := by
  refine az_to 0 (pc2 := 0) (lv2 := [some (az_r 6), some (az_i (((v : Nat) : Int))), none]) (st2 := []) (s2 := s) rfl ?_
  refine az_to 2 (pc2 := 2) (lv2 := [some (az_r 6), some (az_i (((v : Nat) : Int))), some (az_i (0))]) (st2 := []) (s2 := s) rfl ?_
  exact zs_X7_hanger_L2 (by omega) hR hI hh hL hf hD hv _ 0 rfl (by omega) (fun i hi => absurd hi (by omega))
set_option maxRecDepth 100000 in
set_option maxHeartbeats 800000 in
theorem zs_X7_hangAll_L7 {d : Nat} {s : az_S} (hd : 6 ≤ d) {S : zR} {h : Nat} (hR : zRel (s 3) S) (hI : zInv S h) (hh : h ≤ 10000) (hL : ∀ b, b < zn S 0 → s 8 b = zln S 1 b) {f : Nat} (hf : f < 6) {y : az_S} (hDy : zgd S 1 f 1000 (y 10)) (hgy : ∀ i, i ≠ 10 → i ≠ 14 → y i = s i) : ∀ (mq : Nat) (k : Nat) (u : az_S), mq = 6 - k → (k ≤ 6) → (∀ v, v < k → u 16 v = zhg S f v) → (∀ i, i ≠ 16 → u i = y i) → az_R d am_m_X7_hangAll 7 [some (az_r 6), some (az_i (((f : Nat) : Int))), some (az_i (((k : Nat) : Int)))] [] (u) (fun o t => o = .inl none ∧ (∀ v, v < 6 → t 16 v = zhg S f v) ∧ ∀ i, i ≠ 10 → i ≠ 14 → i ≠ 16 → t i = s i) := by
  intro mq
  induction mq using Nat.strongRecOn with
  | _ mq ih =>
    intro k u hm g0 g1 g2
    have hz := zI_h hI hh
    have hRu : zRel (u 3) S := by rw [g2 3 (by decide), hgy 3 (by decide) (by decide)]; exact hR
    have hLu : ∀ b, b < zn S 0 → u 8 b = zln S 1 b := fun b hb => by rw [g2 8 (by decide), hgy 8 (by decide) (by decide)]; exact hL b hb
    have hDu : zgd S 1 f 1000 (u 10) := by rw [g2 10 (by decide)]; exact hDy
    refine az_to 2 (pc2 := 10) (lv2 := [some (az_r 6), some (az_i (((f : Nat) : Int))), some (az_i (((k : Nat) : Int)))]) (st2 := [az_i (6), az_i (((k : Nat) : Int))]) (s2 := u) rfl ?_
    refine az_if2 32 13 rfl (by decide) (by first | assumption | exact ⟨by omega, by omega⟩) ⟨by decide, by decide⟩ (fun h1 => ?_) (fun h1 => ?_)
    · have h1 : 6 ≤ ((k : Nat) : Int) := h1
      refine az_ret0 rfl rfl ?_
      exact ⟨rfl, fun v hv => g1 v (by omega), fun i h1 h2 h3 => by rw [g2 i h3, hgy i h1 h2]⟩
    · have h1 : ¬ (6 ≤ ((k : Nat) : Int)) := h1
      refine az_to 5 (pc2 := 20) (lv2 := [some (az_r 6), some (az_i (((f : Nat) : Int))), some (az_i (((k : Nat) : Int)))]) (st2 := [az_i (((k : Nat) : Int)), az_r 6, az_i (((k : Nat) : Int)), az_r 15]) (s2 := u) rfl ?_
      refine az_clv (v := some (az_i (zhg S f k))) (t := u) (m2 := am_m_X7_hanger) (as := [az_r 6, az_i (((k : Nat) : Int))]) (rest := [az_i (((k : Nat) : Int)), az_r 15]) 23 rfl rfl ⟨rfl, rfl⟩ (by omega) (zs_X7_hanger (s := u) (v := k) (by omega) hRu hI hh hLu hf hDu (by omega)) ?_
      refine az_to 0 (pc2 := 23) (lv2 := [some (az_r 6), some (az_i (((f : Nat) : Int))), some (az_i (((k : Nat) : Int)))]) (st2 := [az_i (zhg S f k), az_i (((k : Nat) : Int)), az_r 15]) (s2 := u) rfl ?_
      refine az_clv (v := none) (t := am_up u 16 k (zhg S f k)) (m2 := am_m_X5_put) (as := [az_r 15, az_i (((k : Nat) : Int)), az_i (zhg S f k)]) (rest := []) 26 rfl rfl ⟨rfl, rfl⟩ (by omega) (zs_X5_put_15 (s := u) (k := k) (v := (zhg S f k)) (by omega) (by omega)) ?_
      refine az_to 0 (pc2 := 26) (lv2 := [some (az_r 6), some (az_i (((f : Nat) : Int))), some (az_i (((k : Nat) : Int)))]) (st2 := []) (s2 := am_up u 16 k (zhg S f k)) rfl ?_
      refine az_to 2 (pc2 := 7) (lv2 := [some (az_r 6), some (az_i (((f : Nat) : Int))), some (az_i ((((k : Nat) : Int) + 1)))]) (st2 := []) (s2 := am_up u 16 k (zhg S f k)) rfl ?_
      exact ih _ (by omega) (k + 1) _ rfl (by omega) (fun v hv => by
        simp only [am_up, if_true]
        by_cases q : v = k
        · rw [if_pos q, q]
        · rw [if_neg q]; exact g1 v (by omega)) (fun i hi => by rw [← g2 i hi]; funext j; simp only [am_up, if_neg hi])
set_option maxRecDepth 100000 in
set_option maxHeartbeats 800000 in
theorem zs_X7_hangAll {d : Nat} {s : az_S} (hd : 6 ≤ d) {S : zR} {h : Nat} (hR : zRel (s 3) S) (hI : zInv S h) (hh : h ≤ 10000) (hL : ∀ b, b < zn S 0 → s 8 b = zln S 1 b) {f : Nat} (hf : f < 6) : az_R d am_m_X7_hangAll 0 (az_ini (am_mL am_m_X7_hangAll) [az_r 6, az_i (((f : Nat) : Int))]) [] (s) (fun o t => o = .inl none ∧ (∀ v, v < 6 → t 16 v = zhg S f v) ∧ ∀ i, i ≠ 10 → i ≠ 14 → i ≠ 16 → t i = s i) := by
  refine az_to 0 (pc2 := 0) (lv2 := [some (az_r 6), some (az_i (((f : Nat) : Int))), none]) (st2 := []) (s2 := s) rfl ?_
  refine az_to 2 (pc2 := 2) (lv2 := [some (az_r 6), some (az_i (((f : Nat) : Int))), none]) (st2 := [az_i (((f : Nat) : Int)), az_r 6]) (s2 := s) rfl ?_
  refine az_cl (m2 := am_m_X7_reachByLands) (as := [az_r 6, az_i (((f : Nat) : Int))]) (rest := []) 5 rfl rfl ⟨rfl, rfl⟩ (by omega) (zs_X7_reachByLands (s := s) (f := f) (by omega) hR hI hh hL (by omega)) (fun v2 t2 q2 => ?_) (fun E t2 q2 => by cases q2.1)
  obtain ⟨o2, ff2, gg2⟩ := q2
  cases o2
  refine az_to 0 (pc2 := 5) (lv2 := [some (az_r 6), some (az_i (((f : Nat) : Int))), none]) (st2 := []) (s2 := t2) rfl ?_
  refine az_to 2 (pc2 := 7) (lv2 := [some (az_r 6), some (az_i (((f : Nat) : Int))), some (az_i (0))]) (st2 := []) (s2 := t2) rfl ?_
  exact zs_X7_hangAll_L7 (by omega) hR hI hh hL hf ff2 gg2 _ 0 _ rfl (by omega) (fun v hv => absurd hv (by omega)) (fun i _ => rfl)
set_option maxRecDepth 100000 in
set_option maxHeartbeats 800000 in
theorem zs_X7_hangerKept {d : Nat} {s : az_S} (hd : 1 ≤ d) {v : Nat} (hv : v < 6) : az_R d am_m_X7_hangerKept 0 (az_ini (am_mL am_m_X7_hangerKept) [az_r 6, az_i (((v : Nat) : Int))]) [] (s) (az_ret (some (az_i (s 16 v))) (s)) := by
  refine az_to 0 (pc2 := 0) (lv2 := [some (az_r 6), some (az_i (((v : Nat) : Int)))]) (st2 := []) (s2 := s) rfl ?_
  refine az_to 3 (pc2 := 5) (lv2 := [some (az_r 6), some (az_i (((v : Nat) : Int)))]) (st2 := [az_i (((v : Nat) : Int)), az_r 15]) (s2 := s) rfl ?_
  refine az_clv (v := some (az_i (s 16 v))) (t := s) (m2 := am_m_X5_at) (as := [az_r 15, az_i (((v : Nat) : Int))]) (rest := []) 8 rfl rfl ⟨rfl, rfl⟩ (by omega) (zs_X5_at_15 (s := s) (k := v) (by omega) (by omega)) ?_
  refine az_to 0 (pc2 := 8) (lv2 := [some (az_r 6), some (az_i (((v : Nat) : Int)))]) (st2 := [az_i (s 16 v)]) (s2 := s) rfl ?_
  refine az_retI rfl rfl ?_
  exact ⟨rfl, rfl⟩
set_option maxRecDepth 100000 in
set_option maxHeartbeats 800000 in
theorem zs_X7_areAlike_in_L25 {d : Nat} {s : az_S} (hd : 2 ≤ d) {h : Nat} {S : zR} (hI : zInv S h) (hh : h ≤ 10000) {m f : Nat} (hf : f < 6) {r : Int} (hD1 : zgd S m f 1000 (s 10)) (hD2 : zgd S m f 1000 (s 12)) {Q : az_O → az_S → Prop} (K : ∀ x : Option az_V, az_R d am_m_X7_areAlike 58 [some (az_r 6), some (az_i r), some (az_i ((f : Nat) : Int)), x] [] s Q) : ∀ (mq : Nat) (k : Nat), mq = 6 - k → (k ≤ 6) → az_R d am_m_X7_areAlike 25 [some (az_r 6), some (az_i (r)), some (az_i (((f : Nat) : Int))), some (az_i (((k : Nat) : Int)))] [] (s) (Q) := by
  intro mq
  induction mq using Nat.strongRecOn with
  | _ mq ih =>
    intro k hm g0
    refine az_to 2 (pc2 := 28) (lv2 := [some (az_r 6), some (az_i (r)), some (az_i (((f : Nat) : Int))), some (az_i (((k : Nat) : Int)))]) (st2 := [az_i (6), az_i (((k : Nat) : Int))]) (s2 := s) rfl ?_
    refine az_if2 58 31 rfl (by decide) (by first | assumption | exact ⟨by omega, by omega⟩) ⟨by decide, by decide⟩ (fun h1 => ?_) (fun h1 => ?_)
    · have h1 : 6 ≤ ((k : Nat) : Int) := h1
      exact K _
    · have h1 : ¬ (6 ≤ ((k : Nat) : Int)) := h1
      have hrk := hD1.2.1 k (by omega)
      have hek := zdi_eq hI hh hf hD1 (v := k) (by omega)
      refine az_to 3 (pc2 := 36) (lv2 := [some (az_r 6), some (az_i (r)), some (az_i (((f : Nat) : Int))), some (az_i (((k : Nat) : Int)))]) (st2 := [az_i (((k : Nat) : Int)), az_r 9]) (s2 := s) rfl ?_
      refine az_clv (v := some (az_i (s 10 k))) (t := s) (m2 := am_m_X5_at) (as := [az_r 9, az_i (((k : Nat) : Int))]) (rest := []) 39 rfl rfl ⟨rfl, rfl⟩ (by omega) (zs_X5_at_9 (s := s) (k := k) (by omega) (by omega)) ?_
      refine az_to 0 (pc2 := 39) (lv2 := [some (az_r 6), some (az_i (r)), some (az_i (((f : Nat) : Int))), some (az_i (((k : Nat) : Int)))]) (st2 := [az_i (s 10 k)]) (s2 := s) rfl ?_
      refine az_to 0 (pc2 := 39) (lv2 := [some (az_r 6), some (az_i (r)), some (az_i (((f : Nat) : Int))), some (az_i (((k : Nat) : Int)))]) (st2 := [az_i (zdi S m f k)]) (s2 := s) (by rw [show s 10 k = zdi S m f k from zdi_eq hI hh hf hD1 (by omega)]; rfl) ?_
      refine az_to 3 (pc2 := 44) (lv2 := [some (az_r 6), some (az_i (r)), some (az_i (((f : Nat) : Int))), some (az_i (((k : Nat) : Int)))]) (st2 := [az_i (((k : Nat) : Int)), az_r 11, az_i (zdi S m f k)]) (s2 := s) rfl ?_
      refine az_clv (v := some (az_i (s 12 k))) (t := s) (m2 := am_m_X5_at) (as := [az_r 11, az_i (((k : Nat) : Int))]) (rest := [az_i (zdi S m f k)]) 47 rfl rfl ⟨rfl, rfl⟩ (by omega) (zs_X5_at_11 (s := s) (k := k) (by omega) (by omega)) ?_
      refine az_to 0 (pc2 := 47) (lv2 := [some (az_r 6), some (az_i (r)), some (az_i (((f : Nat) : Int))), some (az_i (((k : Nat) : Int)))]) (st2 := [az_i (s 12 k), az_i (zdi S m f k)]) (s2 := s) rfl ?_
      refine az_to 0 (pc2 := 47) (lv2 := [some (az_r 6), some (az_i (r)), some (az_i (((f : Nat) : Int))), some (az_i (((k : Nat) : Int)))]) (st2 := [az_i (zdi S m f k), az_i (zdi S m f k)]) (s2 := s) (by rw [show s 12 k = zdi S m f k from zdi_eq hI hh hf hD2 (by omega)]; rfl) ?_
      refine az_if2 52 50 rfl (by decide) (by first | assumption | exact ⟨by omega, by omega⟩) (by first | assumption | exact ⟨by omega, by omega⟩) (fun h2 => ?_) (fun h2 => ?_)
      · have h2 : zdi S m f k = zdi S m f k := h2
        refine az_to 2 (pc2 := 25) (lv2 := [some (az_r 6), some (az_i (r)), some (az_i (((f : Nat) : Int))), some (az_i ((((k : Nat) : Int) + 1)))]) (st2 := []) (s2 := s) rfl ?_
        exact ih _ (by omega) (k + 1) rfl (by omega)
      · have h2 : ¬ (zdi S m f k = zdi S m f k) := h2
        exact absurd rfl h2
set_option maxRecDepth 100000 in
set_option maxHeartbeats 800000 in
theorem zs_X7_areAlike_0_L7 {d : Nat} {s : az_S} (hd : 6 ≤ d) {S : zR} {h : Nat} (hR : zRel (s 3) S) (hI : zInv S h) (hh : h ≤ 10000) : ∀ (mq : Nat) (k : Nat) (u : az_S) (x3 : Option az_V), mq = 6 - k → (k ≤ 6) → (∀ i, i ≠ 10 → i ≠ 8 → i ≠ 12 → i ≠ 14 → u i = s i) → (∀ b, b < zn S 0 → u 8 b = zln S 0 b) → az_R d am_m_X7_areAlike 7 [some (az_r 6), some (az_i (0)), some (az_i (((k : Nat) : Int))), x3] [] (u) (fun o t => o = .inl (some (az_i 1)) ∧ ∀ i, i ≠ 10 → i ≠ 8 → i ≠ 12 → i ≠ 14 → t i = s i) := by
  intro mq
  induction mq using Nat.strongRecOn with
  | _ mq ih =>
    intro k u x3 hm g0 g1 g2
    have hz := zI_h hI hh
    have hRu : zRel (u 3) S := by rw [g1 3 (by decide) (by decide) (by decide) (by decide)]; exact hR
    have hLu : ∀ b, b < zn S 0 → u 8 b = zln S 0 b := g2
    refine az_to 2 (pc2 := 10) (lv2 := [some (az_r 6), some (az_i (0)), some (az_i (((k : Nat) : Int))), x3]) (st2 := [az_i (6), az_i (((k : Nat) : Int))]) (s2 := u) rfl ?_
    refine az_if2 64 13 rfl (by decide) (by first | assumption | exact ⟨by omega, by omega⟩) ⟨by decide, by decide⟩ (fun h1 => ?_) (fun h1 => ?_)
    · have h1 : 6 ≤ ((k : Nat) : Int) := h1
      refine az_to 1 (pc2 := 65) (lv2 := [some (az_r 6), some (az_i (0)), some (az_i (((k : Nat) : Int))), x3]) (st2 := [az_i (1)]) (s2 := u) rfl ?_
      refine az_retB rfl rfl (by first | decide | omega | exact Or.inl rfl | exact Or.inr rfl) ?_
      exact ⟨rfl, g1⟩
    · have h1 : ¬ (6 ≤ ((k : Nat) : Int)) := h1
      refine az_to 2 (pc2 := 15) (lv2 := [some (az_r 6), some (az_i (0)), some (az_i (((k : Nat) : Int))), x3]) (st2 := [az_i (((k : Nat) : Int)), az_r 6]) (s2 := u) rfl ?_
      refine az_cl (m2 := am_m_X7_reachByLands) (as := [az_r 6, az_i (((k : Nat) : Int))]) (rest := []) 18 rfl rfl ⟨rfl, rfl⟩ (by omega) (zs_X7_reachByLands (s := u) (f := k) (by omega) hRu hI hh hLu (by omega)) (fun v2 t2 q2 => ?_) (fun E t2 q2 => by cases q2.1)
      obtain ⟨o2, ff2, gg2⟩ := q2
      cases o2
      refine az_to 0 (pc2 := 18) (lv2 := [some (az_r 6), some (az_i (0)), some (az_i (((k : Nat) : Int))), x3]) (st2 := []) (s2 := t2) rfl ?_
      have hRv : zRel (t2 3) S := by rw [gg2 3 (by decide) (by decide)]; exact hRu
      have hLv : ∀ b, b < zn S 0 → t2 8 b = zln S 0 b := fun b hb => by rw [gg2 8 (by decide) (by decide)]; exact hLu b hb
      refine az_to 2 (pc2 := 20) (lv2 := [some (az_r 6), some (az_i (0)), some (az_i (((k : Nat) : Int))), x3]) (st2 := [az_i (((k : Nat) : Int)), az_r 6]) (s2 := t2) rfl ?_
      refine az_cl (m2 := am_m_X7_reachByBridges) (as := [az_r 6, az_i (((k : Nat) : Int))]) (rest := []) 23 rfl rfl ⟨rfl, rfl⟩ (by omega) (zs_X7_reachByBridges (s := t2) (f := k) (by omega) hRv hI hh hLv (by omega)) (fun v3 t3 q3 => ?_) (fun E t3 q3 => by cases q3.1)
      obtain ⟨o3, ff3, gg3⟩ := q3
      cases o3
      refine az_to 0 (pc2 := 23) (lv2 := [some (az_r 6), some (az_i (0)), some (az_i (((k : Nat) : Int))), x3]) (st2 := []) (s2 := t3) rfl ?_
      refine az_to 2 (pc2 := 25) (lv2 := [some (az_r 6), some (az_i (0)), some (az_i (((k : Nat) : Int))), some (az_i (0))]) (st2 := []) (s2 := t3) rfl ?_
      refine zs_X7_areAlike_in_L25 (s := t3) (by omega) hI hh (by omega) (by rw [gg3 10 (by decide)]; exact ff2) ff3 (fun x => ?_) _ 0 rfl (by omega)
      refine az_to 2 (pc2 := 7) (lv2 := [some (az_r 6), some (az_i (0)), some (az_i ((((k : Nat) : Int) + 1))), x]) (st2 := []) (s2 := t3) rfl ?_
      exact ih _ (by omega) (k + 1) _ _ rfl (by omega) (fun i h1 h2 h3 h4 => by rw [gg3 i h3, gg2 i h1 h4]; exact g1 i h1 h2 h3 h4) (fun b hb => by rw [gg3 8 (by decide)]; exact hLv b hb)
set_option maxRecDepth 100000 in
set_option maxHeartbeats 800000 in
theorem zs_X7_areAlike_0 {d : Nat} {s : az_S} (hd : 6 ≤ d) {S : zR} {h : Nat} (hR : zRel (s 3) S) (hI : zInv S h) (hh : h ≤ 10000) : az_R d am_m_X7_areAlike 0 (az_ini (am_mL am_m_X7_areAlike) [az_r 6, az_i (0)]) [] (s) (fun o t => o = .inl (some (az_i 1)) ∧ ∀ i, i ≠ 10 → i ≠ 8 → i ≠ 12 → i ≠ 14 → t i = s i) := by
  refine az_to 0 (pc2 := 0) (lv2 := [some (az_r 6), some (az_i (0)), none, none]) (st2 := []) (s2 := s) rfl ?_
  refine az_to 2 (pc2 := 2) (lv2 := [some (az_r 6), some (az_i (0)), none, none]) (st2 := [az_i (0), az_r 6]) (s2 := s) rfl ?_
  refine az_cl (m2 := am_m_X7_measure) (as := [az_r 6, az_i (0)]) (rest := []) 5 rfl rfl ⟨rfl, rfl⟩ (by omega) (zs_X7_measure_0 (s := s)  (by omega) hR hI hh) (fun v4 t4 q4 => ?_) (fun E t4 q4 => by cases q4.1)
  obtain ⟨o4, ff4, gg4⟩ := q4
  cases o4
  refine az_to 0 (pc2 := 5) (lv2 := [some (az_r 6), some (az_i (0)), none, none]) (st2 := []) (s2 := t4) rfl ?_
  refine az_to 2 (pc2 := 7) (lv2 := [some (az_r 6), some (az_i (0)), some (az_i (0)), none]) (st2 := []) (s2 := t4) rfl ?_
  exact zs_X7_areAlike_0_L7 (by omega) hR hI hh _ 0 _ _ rfl (by omega) (fun i _ h _ _ => gg4 i h) ff4
set_option maxRecDepth 100000 in
set_option maxHeartbeats 800000 in
theorem zs_X7_areAlike_1_L7 {d : Nat} {s : az_S} (hd : 6 ≤ d) {S : zR} {h : Nat} (hR : zRel (s 3) S) (hI : zInv S h) (hh : h ≤ 10000) : ∀ (mq : Nat) (k : Nat) (u : az_S) (x3 : Option az_V), mq = 6 - k → (k ≤ 6) → (∀ i, i ≠ 10 → i ≠ 8 → i ≠ 12 → i ≠ 14 → u i = s i) → (∀ b, b < zn S 0 → u 8 b = zln S 1 b) → az_R d am_m_X7_areAlike 7 [some (az_r 6), some (az_i (1)), some (az_i (((k : Nat) : Int))), x3] [] (u) (fun o t => o = .inl (some (az_i 1)) ∧ ∀ i, i ≠ 10 → i ≠ 8 → i ≠ 12 → i ≠ 14 → t i = s i) := by
  intro mq
  induction mq using Nat.strongRecOn with
  | _ mq ih =>
    intro k u x3 hm g0 g1 g2
    have hz := zI_h hI hh
    have hRu : zRel (u 3) S := by rw [g1 3 (by decide) (by decide) (by decide) (by decide)]; exact hR
    have hLu : ∀ b, b < zn S 0 → u 8 b = zln S 1 b := g2
    refine az_to 2 (pc2 := 10) (lv2 := [some (az_r 6), some (az_i (1)), some (az_i (((k : Nat) : Int))), x3]) (st2 := [az_i (6), az_i (((k : Nat) : Int))]) (s2 := u) rfl ?_
    refine az_if2 64 13 rfl (by decide) (by first | assumption | exact ⟨by omega, by omega⟩) ⟨by decide, by decide⟩ (fun h1 => ?_) (fun h1 => ?_)
    · have h1 : 6 ≤ ((k : Nat) : Int) := h1
      refine az_to 1 (pc2 := 65) (lv2 := [some (az_r 6), some (az_i (1)), some (az_i (((k : Nat) : Int))), x3]) (st2 := [az_i (1)]) (s2 := u) rfl ?_
      refine az_retB rfl rfl (by first | decide | omega | exact Or.inl rfl | exact Or.inr rfl) ?_
      exact ⟨rfl, g1⟩
    · have h1 : ¬ (6 ≤ ((k : Nat) : Int)) := h1
      refine az_to 2 (pc2 := 15) (lv2 := [some (az_r 6), some (az_i (1)), some (az_i (((k : Nat) : Int))), x3]) (st2 := [az_i (((k : Nat) : Int)), az_r 6]) (s2 := u) rfl ?_
      refine az_cl (m2 := am_m_X7_reachByLands) (as := [az_r 6, az_i (((k : Nat) : Int))]) (rest := []) 18 rfl rfl ⟨rfl, rfl⟩ (by omega) (zs_X7_reachByLands (s := u) (f := k) (by omega) hRu hI hh hLu (by omega)) (fun v2 t2 q2 => ?_) (fun E t2 q2 => by cases q2.1)
      obtain ⟨o2, ff2, gg2⟩ := q2
      cases o2
      refine az_to 0 (pc2 := 18) (lv2 := [some (az_r 6), some (az_i (1)), some (az_i (((k : Nat) : Int))), x3]) (st2 := []) (s2 := t2) rfl ?_
      have hRv : zRel (t2 3) S := by rw [gg2 3 (by decide) (by decide)]; exact hRu
      have hLv : ∀ b, b < zn S 0 → t2 8 b = zln S 1 b := fun b hb => by rw [gg2 8 (by decide) (by decide)]; exact hLu b hb
      refine az_to 2 (pc2 := 20) (lv2 := [some (az_r 6), some (az_i (1)), some (az_i (((k : Nat) : Int))), x3]) (st2 := [az_i (((k : Nat) : Int)), az_r 6]) (s2 := t2) rfl ?_
      refine az_cl (m2 := am_m_X7_reachByBridges) (as := [az_r 6, az_i (((k : Nat) : Int))]) (rest := []) 23 rfl rfl ⟨rfl, rfl⟩ (by omega) (zs_X7_reachByBridges (s := t2) (f := k) (by omega) hRv hI hh hLv (by omega)) (fun v3 t3 q3 => ?_) (fun E t3 q3 => by cases q3.1)
      obtain ⟨o3, ff3, gg3⟩ := q3
      cases o3
      refine az_to 0 (pc2 := 23) (lv2 := [some (az_r 6), some (az_i (1)), some (az_i (((k : Nat) : Int))), x3]) (st2 := []) (s2 := t3) rfl ?_
      refine az_to 2 (pc2 := 25) (lv2 := [some (az_r 6), some (az_i (1)), some (az_i (((k : Nat) : Int))), some (az_i (0))]) (st2 := []) (s2 := t3) rfl ?_
      refine zs_X7_areAlike_in_L25 (s := t3) (by omega) hI hh (by omega) (by rw [gg3 10 (by decide)]; exact ff2) ff3 (fun x => ?_) _ 0 rfl (by omega)
      refine az_to 2 (pc2 := 7) (lv2 := [some (az_r 6), some (az_i (1)), some (az_i ((((k : Nat) : Int) + 1))), x]) (st2 := []) (s2 := t3) rfl ?_
      exact ih _ (by omega) (k + 1) _ _ rfl (by omega) (fun i h1 h2 h3 h4 => by rw [gg3 i h3, gg2 i h1 h4]; exact g1 i h1 h2 h3 h4) (fun b hb => by rw [gg3 8 (by decide)]; exact hLv b hb)
set_option maxRecDepth 100000 in
set_option maxHeartbeats 800000 in
theorem zs_X7_areAlike_1 {d : Nat} {s : az_S} (hd : 6 ≤ d) {S : zR} {h : Nat} (hR : zRel (s 3) S) (hI : zInv S h) (hh : h ≤ 10000) : az_R d am_m_X7_areAlike 0 (az_ini (am_mL am_m_X7_areAlike) [az_r 6, az_i (1)]) [] (s) (fun o t => o = .inl (some (az_i 1)) ∧ ∀ i, i ≠ 10 → i ≠ 8 → i ≠ 12 → i ≠ 14 → t i = s i) := by
  refine az_to 0 (pc2 := 0) (lv2 := [some (az_r 6), some (az_i (1)), none, none]) (st2 := []) (s2 := s) rfl ?_
  refine az_to 2 (pc2 := 2) (lv2 := [some (az_r 6), some (az_i (1)), none, none]) (st2 := [az_i (1), az_r 6]) (s2 := s) rfl ?_
  refine az_cl (m2 := am_m_X7_measure) (as := [az_r 6, az_i (1)]) (rest := []) 5 rfl rfl ⟨rfl, rfl⟩ (by omega) (zs_X7_measure_1 (s := s)  (by omega) hR hI hh) (fun v4 t4 q4 => ?_) (fun E t4 q4 => by cases q4.1)
  obtain ⟨o4, ff4, gg4⟩ := q4
  cases o4
  refine az_to 0 (pc2 := 5) (lv2 := [some (az_r 6), some (az_i (1)), none, none]) (st2 := []) (s2 := t4) rfl ?_
  refine az_to 2 (pc2 := 7) (lv2 := [some (az_r 6), some (az_i (1)), some (az_i (0)), none]) (st2 := []) (s2 := t4) rfl ?_
  exact zs_X7_areAlike_1_L7 (by omega) hR hI hh _ 0 _ _ rfl (by omega) (fun i _ h _ _ => gg4 i h) ff4

