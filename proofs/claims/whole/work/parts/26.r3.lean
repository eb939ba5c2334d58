/-! REFERENCE, 3: ways; written by program (wip/tools/zg/r3.py) -/
/-- the land on which another hangs, as the reference looks for it: bridge by bridge, the lowest -/
def zh6 (S : zR) (D : Nat → Int) (v : Nat) (k : Nat) (x : Int) : Prop :=
  (x = 6 ∧ ∀ j u, j < k → zac S j v = ((u : Nat) : Int) → D u + ztk S j ≠ D v) ∨ ∃ u j, x = ((u : Nat) : Int) ∧ u < 6 ∧ j < k ∧ zac S j v = ((u : Nat) : Int) ∧ D u + ztk S j = D v ∧ ∀ j2 u2, j2 < k → zac S j2 v = ((u2 : Nat) : Int) → D u2 + ztk S j2 = D v → u ≤ u2
theorem zac_sym {S : zR} {h : Nat} (hI : zInv S h) (hh : h ≤ 10000) {b u v : Nat} (hb : b < zn S 0) (hu : u < 6) (hv : v < 6) : zac S b u = ((v : Nat) : Int) ↔ zac S b v = ((u : Nat) : Int) := by
  have h1 := zI_b hI hh hb
  unfold zac
  constructor
  · intro q
    split at q
    · rw [if_neg (by omega), if_pos (by omega)]; omega
    · split at q
      · rw [if_pos (by omega)]; omega
      · omega
  · intro q
    split at q
    · rw [if_neg (by omega), if_pos (by omega)]; omega
    · split at q
      · rw [if_pos (by omega)]; omega
      · omega
theorem zln_1 (S : zR) (b : Nat) : zln S 1 b = ztk S b := rfl
/-- both ways of looking find the same land, where there is a way -/
theorem zhg_eq {S : zR} {h : Nat} (hI : zInv S h) (hh : h ≤ 10000) {f : Nat} (hf : f < 6) {D : Nat → Int} (hD : zgd S 1 f 9999 D) (h0 : ∃ E, zgd S 1 f 1000 E) {v : Nat} (hv : v < 6) (hr : D v ≠ 9999) {x : Int} (hx : zh6 S D v (zn S 0) x) : (if x = 6 then -1 else x) = zhg S f v := by
  have rv := zdi_r hI hh hf (by omega) hD h0 hv
  have rt : ∀ u j, u < 6 → j < zn S 0 → (D u + ztk S j = D v ↔ zdi S 1 f u + ztk S j = zdi S 1 f v) := fun u j hu hj => by
    have ru := zdi_r hI hh hf (by omega) hD h0 hu
    have hk := ztk_r hI hh hj
    omega
  have hac : ∀ j u : Nat, j < zn S 0 → zac S j v = ((u : Nat) : Int) → u < 6 := fun j u hj q => by
    have := (zac_ed hI hh hj hv).2.2
    omega
  have hlf : ∀ u, u < 6 → (0 ≤ zlf S f u v ↔ ∃ j, j < zn S 0 ∧ D u + ztk S j = D v ∧ zac S j v = ((u : Nat) : Int)) := fun u hu => by
    constructor
    · intro q
      have q1 := zf_some _ _ q
      have q2 := zf_lt (fun b => decide (zdi S 1 f u + ztk S b = zdi S 1 f v ∧ zac S b u = ((v : Nat) : Int))) (zn S 0)
      rw [decide_eq_true_eq] at q1
      unfold zlf at q
      have hj : (zlf S f u v).toNat < zn S 0 := by unfold zlf; omega
      exact ⟨(zlf S f u v).toNat, hj, (rt u _ hu hj).mpr q1.1, (zac_sym hI hh hj hu hv).mp q1.2⟩
    · intro ⟨j, hj, q1, q2⟩
      by_cases q : 0 ≤ zlf S f u v
      · exact q
      · exfalso
        have := zf_none' q j hj
        rw [decide_eq_false_iff_not] at this
        exact this ⟨(rt u j hu hj).mp q1, (zac_sym hI hh hj hu hv).mpr q2⟩
  rcases hx with ⟨rfl, hx⟩ | ⟨u, j, rfl, hu, hj, q1, q2, hx⟩
  · rw [if_pos rfl]
    refine (zf_none _ _ (fun i hi => ?_)).symm
    rw [decide_eq_false_iff_not, hlf i hi]
    intro ⟨j, hj, q1, q2⟩
    exact hx j i hj q2 q1
  · rw [if_neg (by omega)]
    refine (zf_first _ _ u hu ?_ (fun i hi => ?_)).symm
    · rw [decide_eq_true_eq, hlf u hu]
      exact ⟨j, hj, q2, q1⟩
    · rw [decide_eq_false_iff_not, hlf i (by omega)]
      intro ⟨j2, hj2, q3, q4⟩
      have := hx j2 i hj2 q4 q3
      omega
set_option maxRecDepth 100000 in
set_option maxHeartbeats 800000 in
theorem zs_X10_isLower {d : Nat} {s : az_S} (hd : 0 ≤ d) {u v : Nat} {l : Int} (hu : u < 6) (hv : v < 6) (hl : 0 ≤ l ∧ l ≤ 27) (hr : ∀ w, w < 6 → 0 ≤ s 39 w ∧ s 39 w ≤ 9999) : az_R d am_m_X10_isLower 0 (az_ini (am_mL am_m_X10_isLower) [az_r 34, az_i (((u : Nat) : Int)), az_i (((v : Nat) : Int)), az_i (l)]) [] (s) (fun o t => o = .inl (some (az_i (az_b (s 39 u + l < s 39 v)))) ∧ t 39 = zrl (s 39) u v l ∧ ∀ i, i ≠ 39 → t i = s i) := by
  have hru := hr u hu
  have hrv := hr v hv
  refine az_to 0 (pc2 := 0) (lv2 := [some (az_r 34), some (az_i (((u : Nat) : Int))), some (az_i (((v : Nat) : Int))), some (az_i (l)), none]) (st2 := []) (s2 := s) rfl ?_
  refine az_to 3 (pc2 := 5) (lv2 := [some (az_r 34), some (az_i (((u : Nat) : Int))), some (az_i (((v : Nat) : Int))), some (az_i (l)), none]) (st2 := [az_i (((u : Nat) : Int)), az_r 39]) (s2 := s) rfl ?_
  refine az_ld_i 6 rfl rfl (by constructor <;> omega) ⟨by decide, rfl⟩ ?_
  refine az_to 0 (pc2 := 6) (lv2 := [some (az_r 34), some (az_i (((u : Nat) : Int))), some (az_i (((v : Nat) : Int))), some (az_i (l)), none]) (st2 := [az_i (s 39 u)]) (s2 := s) rfl ?_
  refine az_to 5 (pc2 := 13) (lv2 := [some (az_r 34), some (az_i (((u : Nat) : Int))), some (az_i (((v : Nat) : Int))), some (az_i (l)), none]) (st2 := [az_i (((v : Nat) : Int)), az_r 39, az_i ((s 39 u + l))]) (s2 := s) rfl ?_
  refine az_ld_i 14 rfl rfl (by constructor <;> omega) ⟨by decide, rfl⟩ ?_
  refine az_to 0 (pc2 := 14) (lv2 := [some (az_r 34), some (az_i (((u : Nat) : Int))), some (az_i (((v : Nat) : Int))), some (az_i (l)), none]) (st2 := [az_i (s 39 v), az_i ((s 39 u + l))]) (s2 := s) rfl ?_
  refine az_if2 21 17 rfl (by decide) (by first | assumption | exact ⟨by omega, by omega⟩) (by first | assumption | exact ⟨by omega, by omega⟩) (fun h1 => ?_) (fun h1 => ?_)
  · have h1 : s 39 v ≤ (s 39 u + l) := h1
    refine az_to 6 (pc2 := 31) (lv2 := [some (az_r 34), some (az_i (((u : Nat) : Int))), some (az_i (((v : Nat) : Int))), some (az_i (l)), some (az_i (0))]) (st2 := [az_i (0), az_i (((v : Nat) : Int)), az_r 39]) (s2 := s) rfl ?_
    refine az_ifc 45 34 rfl (by decide) ⟨by decide, by decide⟩ (fun _ => ?_) (fun h => absurd (show az_cnd _ _ _ by unfold az_cnd; decide) h)
    refine az_to 3 (pc2 := 50) (lv2 := [some (az_r 34), some (az_i (((u : Nat) : Int))), some (az_i (((v : Nat) : Int))), some (az_i (l)), some (az_i (0))]) (st2 := [az_i (((v : Nat) : Int)), az_r 39, az_i (((v : Nat) : Int)), az_r 39]) (s2 := s) rfl ?_
    refine az_ld_i 51 rfl rfl (by constructor <;> omega) ⟨by decide, rfl⟩ ?_
    refine az_to 0 (pc2 := 51) (lv2 := [some (az_r 34), some (az_i (((u : Nat) : Int))), some (az_i (((v : Nat) : Int))), some (az_i (l)), some (az_i (0))]) (st2 := [az_i (s 39 v), az_i (((v : Nat) : Int)), az_r 39]) (s2 := s) rfl ?_
    refine az_st_i 52 rfl rfl (by constructor <;> omega) ⟨by decide, rfl⟩ ?_
    refine az_to 1 (pc2 := 54) (lv2 := [some (az_r 34), some (az_i (((u : Nat) : Int))), some (az_i (((v : Nat) : Int))), some (az_i (l)), some (az_i (0))]) (st2 := [az_i (0)]) (s2 := am_up s 39 v (s 39 v)) rfl ?_
    refine az_retB rfl rfl (by first | decide | omega | exact Or.inl rfl | exact Or.inr rfl) ?_
    have e : ¬ s 39 u + l < s 39 v := by omega
    exact ⟨by rw [az_b0 e], by rw [zrl_no e]; funext w; simp only [am_up, if_true]; split <;> simp_all, fun i hi => by funext j; simp only [am_up, if_neg hi]⟩
  · have h1 : ¬ (s 39 v ≤ (s 39 u + l)) := h1
    refine az_to 7 (pc2 := 31) (lv2 := [some (az_r 34), some (az_i (((u : Nat) : Int))), some (az_i (((v : Nat) : Int))), some (az_i (l)), some (az_i (1))]) (st2 := [az_i (1), az_i (((v : Nat) : Int)), az_r 39]) (s2 := s) rfl ?_
    refine az_ifc 45 34 rfl (by decide) ⟨by decide, by decide⟩ (fun h => absurd h (by unfold az_cnd; decide)) (fun _ => ?_)
    refine az_to 3 (pc2 := 39) (lv2 := [some (az_r 34), some (az_i (((u : Nat) : Int))), some (az_i (((v : Nat) : Int))), some (az_i (l)), some (az_i (1))]) (st2 := [az_i (((u : Nat) : Int)), az_r 39, az_i (((v : Nat) : Int)), az_r 39]) (s2 := s) rfl ?_
    refine az_ld_i 40 rfl rfl (by constructor <;> omega) ⟨by decide, rfl⟩ ?_
    refine az_to 0 (pc2 := 40) (lv2 := [some (az_r 34), some (az_i (((u : Nat) : Int))), some (az_i (((v : Nat) : Int))), some (az_i (l)), some (az_i (1))]) (st2 := [az_i (s 39 u), az_i (((v : Nat) : Int)), az_r 39]) (s2 := s) rfl ?_
    refine az_to 3 (pc2 := 51) (lv2 := [some (az_r 34), some (az_i (((u : Nat) : Int))), some (az_i (((v : Nat) : Int))), some (az_i (l)), some (az_i (1))]) (st2 := [az_i ((s 39 u + l)), az_i (((v : Nat) : Int)), az_r 39]) (s2 := s) rfl ?_
    refine az_st_i 52 rfl rfl (by constructor <;> omega) ⟨by decide, rfl⟩ ?_
    refine az_to 1 (pc2 := 54) (lv2 := [some (az_r 34), some (az_i (((u : Nat) : Int))), some (az_i (((v : Nat) : Int))), some (az_i (l)), some (az_i (1))]) (st2 := [az_i (1)]) (s2 := am_up s 39 v ((s 39 u + l))) rfl ?_
    refine az_retB rfl rfl (by first | decide | omega | exact Or.inl rfl | exact Or.inr rfl) ?_
    have e : s 39 u + l < s 39 v := by omega
    exact ⟨by rw [az_b1 e], zrl_up e, fun i hi => by funext j; simp only [am_up, if_neg hi]⟩
set_option maxRecDepth 100000 in
set_option maxHeartbeats 800000 in
theorem zs_X10_goesFrom_in1_L43 {d : Nat} {s : az_S} (hd : 5 ≤ d) {S : zR} {h : Nat} (hS : s 35 = S) (hI : zInv S h) (hh : h ≤ 10000) {f : Nat} (hf : f < 6) {D0 : Nat → Int} {Q : az_O → az_S → Prop} (K : ∀ (y : az_S) (c : Int) (x4 x5 x6 x7 : Option az_V), (∀ i, i ≠ 39 → y i = s i) → zBj S 1 f 9999 D0 (zn S 0) (y 39) c → az_R d am_m_X10_goesFrom 34 [some (az_r 34), some (az_i ((f : Nat) : Int)), some (az_i 1), some (az_i c), x4, x5, x6, x7] [] y Q) : ∀ (mq : Nat) (k : Nat) (y : az_S) (c : Int) (x5 : Option az_V) (x6 : Option az_V) (x7 : Option az_V), mq = zn S 0 - k → (k ≤ zn S 0) → (∀ i, i ≠ 39 → y i = s i) → (zBj S 1 f 9999 D0 k (y 39) c) → az_R d am_m_X10_goesFrom 43 [some (az_r 34), some (az_i (((f : Nat) : Int))), some (az_i (1)), some (az_i (c)), some (az_i (((k : Nat) : Int))), x5, x6, x7] [] (y) (Q) := by
  intro mq
  induction mq using Nat.strongRecOn with
  | _ mq ih =>
    intro k y c x5 x6 x7 hm g0 g1 g2
    have hz := zI_h hI hh
    have hSy : y 35 = S := by rw [g1 35 (by decide)]; exact hS
    have hc01 : c = 0 ∨ c = 1 := by rcases g2.2.2.2 with q | q <;> omega
    refine az_to 4 (pc2 := 50) (lv2 := [some (az_r 34), some (az_i (((f : Nat) : Int))), some (az_i (1)), some (az_i (c)), some (az_i (((k : Nat) : Int))), x5, x6, x7]) (st2 := [az_i (0), az_r 35, az_i (((k : Nat) : Int))]) (s2 := y) rfl ?_
    refine az_ld_i 51 rfl rfl (by constructor <;> omega) ⟨by decide, rfl⟩ ?_
    refine az_to 0 (pc2 := 51) (lv2 := [some (az_r 34), some (az_i (((f : Nat) : Int))), some (az_i (1)), some (az_i (c)), some (az_i (((k : Nat) : Int))), x5, x6, x7]) (st2 := [az_i (y 35 0), az_i (((k : Nat) : Int))]) (s2 := y) rfl ?_
    refine az_to 0 (pc2 := 51) (lv2 := [some (az_r 34), some (az_i (((f : Nat) : Int))), some (az_i (1)), some (az_i (c)), some (az_i (((k : Nat) : Int))), x5, x6, x7]) (st2 := [az_i (((zn S 0 : Nat) : Int)), az_i (((k : Nat) : Int))]) (s2 := y) (by rw [show y 35 0 = ((zn S 0 : Nat) : Int) from (by rw [hSy, hz.2.1.1])]; rfl) ?_
    refine az_if2 145 54 rfl (by decide) (by first | assumption | exact ⟨by omega, by omega⟩) (by first | assumption | exact ⟨by omega, by omega⟩) (fun h1 => ?_) (fun h1 => ?_)
    · have h1 : ((zn S 0 : Nat) : Int) ≤ ((k : Nat) : Int) := h1
      refine az_to 1 (pc2 := 34) (lv2 := [some (az_r 34), some (az_i (((f : Nat) : Int))), some (az_i (1)), some (az_i (c)), some (az_i (((k : Nat) : Int))), x5, x6, x7]) (st2 := []) (s2 := y) rfl ?_
      obtain rfl : k = zn S 0 := by omega
      exact K y _ _ _ _ _ g1 g2
    · have h1 : ¬ (((zn S 0 : Nat) : Int) ≤ ((k : Nat) : Int)) := h1
      refine az_to 1 (pc2 := 55) (lv2 := [some (az_r 34), some (az_i (((f : Nat) : Int))), some (az_i (1)), some (az_i (c)), some (az_i (((k : Nat) : Int))), x5, x6, x7]) (st2 := [az_i (1)]) (s2 := y) rfl ?_
      refine az_ifc 67 58 rfl (by decide) ⟨by decide, by decide⟩ (fun h => absurd h (by unfold az_cnd; decide)) (fun _ => ?_)
      refine az_to 2 (pc2 := 61) (lv2 := [some (az_r 34), some (az_i (((f : Nat) : Int))), some (az_i (1)), some (az_i (c)), some (az_i (((k : Nat) : Int))), x5, x6, x7]) (st2 := [az_i (((k : Nat) : Int)), az_r 34]) (s2 := y) rfl ?_
      refine az_clv (v := some (az_i (ztk S k))) (t := y) (m2 := am_m_X10_takesAt) (as := [az_r 34, az_i (((k : Nat) : Int))]) (rest := []) 64 rfl rfl ⟨rfl, rfl⟩ (by omega) (zs_X10_takesAt (s := y) (b := k) (by omega) hSy hI hh (by omega)) ?_
      refine az_to 0 (pc2 := 64) (lv2 := [some (az_r 34), some (az_i (((f : Nat) : Int))), some (az_i (1)), some (az_i (c)), some (az_i (((k : Nat) : Int))), x5, x6, x7]) (st2 := [az_i (ztk S k)]) (s2 := y) rfl ?_
      have hlk := zln_r hI hh (m := 1) (b := k) (by omega)
      refine az_to 0 (pc2 := 64) (lv2 := [some (az_r 34), some (az_i (((f : Nat) : Int))), some (az_i (1)), some (az_i (c)), some (az_i (((k : Nat) : Int))), x5, x6, x7]) (st2 := [az_i (zln S 1 k)]) (s2 := y) (rfl) ?_
      refine az_to 6 (pc2 := 80) (lv2 := [some (az_r 34), some (az_i (((f : Nat) : Int))), some (az_i (1)), some (az_i (c)), some (az_i (((k : Nat) : Int))), some (az_i (zln S 1 k)), x6, x7]) (st2 := [az_i (0), az_i (((k : Nat) : Int)), az_r 34, az_r 34]) (s2 := y) rfl ?_
      refine az_clv (v := some (az_i (zB S k 0))) (t := y) (m2 := am_m_X10_of) (as := [az_r 34, az_i (((k : Nat) : Int)), az_i (0)]) (rest := [az_r 34]) 83 rfl rfl ⟨rfl, rfl⟩ (by omega) (zs_X10_of (s := y) (b := k) (k := 0) (by omega) hSy (by omega) (by omega)) ?_
      refine az_to 0 (pc2 := 83) (lv2 := [some (az_r 34), some (az_i (((f : Nat) : Int))), some (az_i (1)), some (az_i (c)), some (az_i (((k : Nat) : Int))), some (az_i (zln S 1 k)), x6, x7]) (st2 := [az_i (zB S k 0), az_r 34]) (s2 := y) rfl ?_
      have hzb := zI_b hI hh (b := k) (by omega)
      obtain ⟨e0, he0⟩ : ∃ n : Nat, zB S k 0 = n := ⟨(zB S k 0).toNat, by omega⟩
      refine az_to 0 (pc2 := 83) (lv2 := [some (az_r 34), some (az_i (((f : Nat) : Int))), some (az_i (1)), some (az_i (c)), some (az_i (((k : Nat) : Int))), some (az_i (zln S 1 k)), x6, x7]) (st2 := [az_i (((e0 : Nat) : Int)), az_r 34]) (s2 := y) (by rw [he0]; rfl) ?_
      refine az_to 3 (pc2 := 87) (lv2 := [some (az_r 34), some (az_i (((f : Nat) : Int))), some (az_i (1)), some (az_i (c)), some (az_i (((k : Nat) : Int))), some (az_i (zln S 1 k)), x6, x7]) (st2 := [az_i (1), az_i (((k : Nat) : Int)), az_r 34, az_i (((e0 : Nat) : Int)), az_r 34]) (s2 := y) rfl ?_
      refine az_clv (v := some (az_i (zB S k 1))) (t := y) (m2 := am_m_X10_of) (as := [az_r 34, az_i (((k : Nat) : Int)), az_i (1)]) (rest := [az_i (((e0 : Nat) : Int)), az_r 34]) 90 rfl rfl ⟨rfl, rfl⟩ (by omega) (zs_X10_of (s := y) (b := k) (k := 1) (by omega) hSy (by omega) (by omega)) ?_
      refine az_to 0 (pc2 := 90) (lv2 := [some (az_r 34), some (az_i (((f : Nat) : Int))), some (az_i (1)), some (az_i (c)), some (az_i (((k : Nat) : Int))), some (az_i (zln S 1 k)), x6, x7]) (st2 := [az_i (zB S k 1), az_i (((e0 : Nat) : Int)), az_r 34]) (s2 := y) rfl ?_
      have hzb := zI_b hI hh (b := k) (by omega)
      obtain ⟨e1, he1⟩ : ∃ n : Nat, zB S k 1 = n := ⟨(zB S k 1).toNat, by omega⟩
      have hru := g2.1.2.1
      have hed : zed S k e0 e1 := Or.inl ⟨he0, he1⟩
      refine az_to 0 (pc2 := 90) (lv2 := [some (az_r 34), some (az_i (((f : Nat) : Int))), some (az_i (1)), some (az_i (c)), some (az_i (((k : Nat) : Int))), some (az_i (zln S 1 k)), x6, x7]) (st2 := [az_i (((e1 : Nat) : Int)), az_i (((e0 : Nat) : Int)), az_r 34]) (s2 := y) (by rw [he1]; rfl) ?_
      refine az_to 1 (pc2 := 92) (lv2 := [some (az_r 34), some (az_i (((f : Nat) : Int))), some (az_i (1)), some (az_i (c)), some (az_i (((k : Nat) : Int))), some (az_i (zln S 1 k)), x6, x7]) (st2 := [az_i (zln S 1 k), az_i (((e1 : Nat) : Int)), az_i (((e0 : Nat) : Int)), az_r 34]) (s2 := y) rfl ?_
      refine az_cl (m2 := am_m_X10_isLower) (as := [az_r 34, az_i (((e0 : Nat) : Int)), az_i (((e1 : Nat) : Int)), az_i (zln S 1 k)]) (rest := []) 95 rfl rfl ⟨rfl, rfl⟩ (by omega) (zs_X10_isLower (s := y) (u := e0) (v := e1) (l := (zln S 1 k)) (by omega) (by omega) (by omega) hlk hru) (fun v2 t2 q2 => ?_) (fun E t2 q2 => by cases q2.1)
      obtain ⟨o2, ff2, gg2⟩ := q2
      cases o2
      refine az_to 0 (pc2 := 95) (lv2 := [some (az_r 34), some (az_i (((f : Nat) : Int))), some (az_i (1)), some (az_i (c)), some (az_i (((k : Nat) : Int))), some (az_i (zln S 1 k)), x6, x7]) (st2 := [az_i (az_b (y 39 e0 + (zln S 1 k) < y 39 e1))]) (s2 := t2) rfl ?_
      have hru : ∀ w, w < 6 → 0 ≤ t2 39 w ∧ t2 39 w ≤ 9999 := by
        have q := (zes_rl hI hh (m := 1) hf (by omega) hed g2.1).2.1
        rw [← ff2] at q
        exact q
      have hSt : t2 35 = S := by rw [gg2 35 (by decide)]; exact hSy
      refine az_to 5 (pc2 := 102) (lv2 := [some (az_r 34), some (az_i (((f : Nat) : Int))), some (az_i (1)), some (az_i (c)), some (az_i (((k : Nat) : Int))), some (az_i (zln S 1 k)), some (az_i (az_b (y 39 e0 + (zln S 1 k) < y 39 e1))), x7]) (st2 := [az_i (1), az_i (((k : Nat) : Int)), az_r 34, az_r 34]) (s2 := t2) rfl ?_
      refine az_clv (v := some (az_i (zB S k 1))) (t := t2) (m2 := am_m_X10_of) (as := [az_r 34, az_i (((k : Nat) : Int)), az_i (1)]) (rest := [az_r 34]) 105 rfl rfl ⟨rfl, rfl⟩ (by omega) (zs_X10_of (s := t2) (b := k) (k := 1) (by omega) hSt (by omega) (by omega)) ?_
      refine az_to 0 (pc2 := 105) (lv2 := [some (az_r 34), some (az_i (((f : Nat) : Int))), some (az_i (1)), some (az_i (c)), some (az_i (((k : Nat) : Int))), some (az_i (zln S 1 k)), some (az_i (az_b (y 39 e0 + (zln S 1 k) < y 39 e1))), x7]) (st2 := [az_i (zB S k 1), az_r 34]) (s2 := t2) rfl ?_
      refine az_to 0 (pc2 := 105) (lv2 := [some (az_r 34), some (az_i (((f : Nat) : Int))), some (az_i (1)), some (az_i (c)), some (az_i (((k : Nat) : Int))), some (az_i (zln S 1 k)), some (az_i (az_b (y 39 e0 + (zln S 1 k) < y 39 e1))), x7]) (st2 := [az_i (((e1 : Nat) : Int)), az_r 34]) (s2 := t2) (by rw [he1]; rfl) ?_
      refine az_to 3 (pc2 := 109) (lv2 := [some (az_r 34), some (az_i (((f : Nat) : Int))), some (az_i (1)), some (az_i (c)), some (az_i (((k : Nat) : Int))), some (az_i (zln S 1 k)), some (az_i (az_b (y 39 e0 + (zln S 1 k) < y 39 e1))), x7]) (st2 := [az_i (0), az_i (((k : Nat) : Int)), az_r 34, az_i (((e1 : Nat) : Int)), az_r 34]) (s2 := t2) rfl ?_
      refine az_clv (v := some (az_i (zB S k 0))) (t := t2) (m2 := am_m_X10_of) (as := [az_r 34, az_i (((k : Nat) : Int)), az_i (0)]) (rest := [az_i (((e1 : Nat) : Int)), az_r 34]) 112 rfl rfl ⟨rfl, rfl⟩ (by omega) (zs_X10_of (s := t2) (b := k) (k := 0) (by omega) hSt (by omega) (by omega)) ?_
      refine az_to 0 (pc2 := 112) (lv2 := [some (az_r 34), some (az_i (((f : Nat) : Int))), some (az_i (1)), some (az_i (c)), some (az_i (((k : Nat) : Int))), some (az_i (zln S 1 k)), some (az_i (az_b (y 39 e0 + (zln S 1 k) < y 39 e1))), x7]) (st2 := [az_i (zB S k 0), az_i (((e1 : Nat) : Int)), az_r 34]) (s2 := t2) rfl ?_
      refine az_to 0 (pc2 := 112) (lv2 := [some (az_r 34), some (az_i (((f : Nat) : Int))), some (az_i (1)), some (az_i (c)), some (az_i (((k : Nat) : Int))), some (az_i (zln S 1 k)), some (az_i (az_b (y 39 e0 + (zln S 1 k) < y 39 e1))), x7]) (st2 := [az_i (((e0 : Nat) : Int)), az_i (((e1 : Nat) : Int)), az_r 34]) (s2 := t2) (by rw [he0]; rfl) ?_
      refine az_to 1 (pc2 := 114) (lv2 := [some (az_r 34), some (az_i (((f : Nat) : Int))), some (az_i (1)), some (az_i (c)), some (az_i (((k : Nat) : Int))), some (az_i (zln S 1 k)), some (az_i (az_b (y 39 e0 + (zln S 1 k) < y 39 e1))), x7]) (st2 := [az_i (zln S 1 k), az_i (((e0 : Nat) : Int)), az_i (((e1 : Nat) : Int)), az_r 34]) (s2 := t2) rfl ?_
      refine az_cl (m2 := am_m_X10_isLower) (as := [az_r 34, az_i (((e1 : Nat) : Int)), az_i (((e0 : Nat) : Int)), az_i (zln S 1 k)]) (rest := []) 117 rfl rfl ⟨rfl, rfl⟩ (by omega) (zs_X10_isLower (s := t2) (u := e1) (v := e0) (l := (zln S 1 k)) (by omega) (by omega) (by omega) hlk hru) (fun v3 t3 q3 => ?_) (fun E t3 q3 => by cases q3.1)
      obtain ⟨o3, ff3, gg3⟩ := q3
      cases o3
      refine az_to 0 (pc2 := 117) (lv2 := [some (az_r 34), some (az_i (((f : Nat) : Int))), some (az_i (1)), some (az_i (c)), some (az_i (((k : Nat) : Int))), some (az_i (zln S 1 k)), some (az_i (az_b (y 39 e0 + (zln S 1 k) < y 39 e1))), x7]) (st2 := [az_i (az_b (t2 39 e1 + (zln S 1 k) < t2 39 e0))]) (s2 := t3) rfl ?_
      refine az_to 2 (pc2 := 120) (lv2 := [some (az_r 34), some (az_i (((f : Nat) : Int))), some (az_i (1)), some (az_i (c)), some (az_i (((k : Nat) : Int))), some (az_i (zln S 1 k)), some (az_i (az_b (y 39 e0 + (zln S 1 k) < y 39 e1))), some (az_i (az_b (t2 39 e1 + (zln S 1 k) < t2 39 e0)))]) (st2 := [az_i (c)]) (s2 := t3) rfl ?_
      refine az_ifc 133 123 rfl (by decide) (by first | assumption | exact ⟨by omega, by omega⟩) (fun h4 => ?_) (fun h4 => ?_)
      · have h4 : ¬ c = 0 := h4
        refine az_to 5 (pc2 := 43) (lv2 := [some (az_r 34), some (az_i (((f : Nat) : Int))), some (az_i (1)), some (az_i (1)), some (az_i ((((k : Nat) : Int) + 1))), some (az_i (zln S 1 k)), some (az_i (az_b (y 39 e0 + (zln S 1 k) < y 39 e1))), some (az_i (az_b (t2 39 e1 + (zln S 1 k) < t2 39 e0)))]) (st2 := []) (s2 := t3) rfl ?_
        refine ih _ (by omega) (k + 1) _ _ _ _ _ rfl (by omega) (fun i hi => by rw [gg3 i hi, gg2 i hi]; exact g1 i hi) ?_
        have hc01 : c = 0 ∨ c = 1 := by rcases g2.2.2.2 with q | q <;> omega
        rw [ff3, ff2]
        refine zBj_st hI hh hf (by omega) he0 he1 g2 ?_
        rw [← ff2]
        omega
      · have h4 : c = 0 := Decidable.not_not.mp h4
        refine az_to 1 (pc2 := 125) (lv2 := [some (az_r 34), some (az_i (((f : Nat) : Int))), some (az_i (1)), some (az_i (c)), some (az_i (((k : Nat) : Int))), some (az_i (zln S 1 k)), some (az_i (az_b (y 39 e0 + (zln S 1 k) < y 39 e1))), some (az_i (az_b (t2 39 e1 + (zln S 1 k) < t2 39 e0)))]) (st2 := [az_i (az_b (y 39 e0 + (zln S 1 k) < y 39 e1))]) (s2 := t3) rfl ?_
        refine az_ifbn 133 128 rfl (by decide) (fun h5 => ?_) (fun h5 => ?_)
        · have h5 : y 39 e0 + (zln S 1 k) < y 39 e1 := h5
          refine az_to 5 (pc2 := 43) (lv2 := [some (az_r 34), some (az_i (((f : Nat) : Int))), some (az_i (1)), some (az_i (1)), some (az_i ((((k : Nat) : Int) + 1))), some (az_i (zln S 1 k)), some (az_i (az_b (y 39 e0 + (zln S 1 k) < y 39 e1))), some (az_i (az_b (t2 39 e1 + (zln S 1 k) < t2 39 e0)))]) (st2 := []) (s2 := t3) rfl ?_
          refine ih _ (by omega) (k + 1) _ _ _ _ _ rfl (by omega) (fun i hi => by rw [gg3 i hi, gg2 i hi]; exact g1 i hi) ?_
          have hc01 : c = 0 ∨ c = 1 := by rcases g2.2.2.2 with q | q <;> omega
          rw [ff3, ff2]
          refine zBj_st hI hh hf (by omega) he0 he1 g2 ?_
          rw [← ff2]
          omega
        · have h5 : ¬ (y 39 e0 + (zln S 1 k) < y 39 e1) := h5
          refine az_to 1 (pc2 := 130) (lv2 := [some (az_r 34), some (az_i (((f : Nat) : Int))), some (az_i (1)), some (az_i (c)), some (az_i (((k : Nat) : Int))), some (az_i (zln S 1 k)), some (az_i (az_b (y 39 e0 + (zln S 1 k) < y 39 e1))), some (az_i (az_b (t2 39 e1 + (zln S 1 k) < t2 39 e0)))]) (st2 := [az_i (az_b (t2 39 e1 + (zln S 1 k) < t2 39 e0))]) (s2 := t3) rfl ?_
          refine az_ifbe 137 133 rfl (by decide) (fun h6 => ?_) (fun h6 => ?_)
          · have h6 : ¬ (t2 39 e1 + (zln S 1 k) < t2 39 e0) := h6
            refine az_to 4 (pc2 := 43) (lv2 := [some (az_r 34), some (az_i (((f : Nat) : Int))), some (az_i (1)), some (az_i (0)), some (az_i ((((k : Nat) : Int) + 1))), some (az_i (zln S 1 k)), some (az_i (az_b (y 39 e0 + (zln S 1 k) < y 39 e1))), some (az_i (az_b (t2 39 e1 + (zln S 1 k) < t2 39 e0)))]) (st2 := []) (s2 := t3) rfl ?_
            refine ih _ (by omega) (k + 1) _ _ _ _ _ rfl (by omega) (fun i hi => by rw [gg3 i hi, gg2 i hi]; exact g1 i hi) ?_
            have hc01 : c = 0 ∨ c = 1 := by rcases g2.2.2.2 with q | q <;> omega
            rw [ff3, ff2]
            refine zBj_st hI hh hf (by omega) he0 he1 g2 ?_
            rw [← ff2]
            omega
          · have h6 : t2 39 e1 + (zln S 1 k) < t2 39 e0 := h6
            refine az_to 5 (pc2 := 43) (lv2 := [some (az_r 34), some (az_i (((f : Nat) : Int))), some (az_i (1)), some (az_i (1)), some (az_i ((((k : Nat) : Int) + 1))), some (az_i (zln S 1 k)), some (az_i (az_b (y 39 e0 + (zln S 1 k) < y 39 e1))), some (az_i (az_b (t2 39 e1 + (zln S 1 k) < t2 39 e0)))]) (st2 := []) (s2 := t3) rfl ?_
            refine ih _ (by omega) (k + 1) _ _ _ _ _ rfl (by omega) (fun i hi => by rw [gg3 i hi, gg2 i hi]; exact g1 i hi) ?_
            have hc01 : c = 0 ∨ c = 1 := by rcases g2.2.2.2 with q | q <;> omega
            rw [ff3, ff2]
            refine zBj_st hI hh hf (by omega) he0 he1 g2 ?_
            rw [← ff2]
            omega
set_option maxRecDepth 100000 in
set_option maxHeartbeats 800000 in
theorem zs_X10_goesFrom_1_L34 {d : Nat} {s : az_S} (hd : 5 ≤ d) {S : zR} {h : Nat} (hS : s 35 = S) (hI : zInv S h) (hh : h ≤ 10000) {f : Nat} (hf : f < 6) : ∀ (mq : Nat) (u : az_S) (x4 : Option az_V) (x5 : Option az_V) (x6 : Option az_V) (x7 : Option az_V), mq = (zs 6 (u 39)).toNat → (∀ i, i ≠ 39 → u i = s i) → (zes S 1 f 9999 (u 39)) → az_R d am_m_X10_goesFrom 34 [some (az_r 34), some (az_i (((f : Nat) : Int))), some (az_i (1)), some (az_i (1)), x4, x5, x6, x7] [] (u) (fun o t => o = .inl none ∧ zgd S 1 f 9999 (t 39) ∧ ∀ i, i ≠ 39 → t i = s i) := by
  intro mq
  induction mq using Nat.strongRecOn with
  | _ mq ih =>
    intro u x4 x5 x6 x7 hm g0 g1
    skip
    refine az_to 1 (pc2 := 35) (lv2 := [some (az_r 34), some (az_i (((f : Nat) : Int))), some (az_i (1)), some (az_i (1)), x4, x5, x6, x7]) (st2 := [az_i (1)]) (s2 := u) rfl ?_
    refine az_ifc 148 38 rfl (by decide) ⟨by decide, by decide⟩ (fun h => absurd h (by unfold az_cnd; decide)) (fun _ => ?_)
    refine az_to 4 (pc2 := 43) (lv2 := [some (az_r 34), some (az_i (((f : Nat) : Int))), some (az_i (1)), some (az_i (0)), some (az_i (0)), x5, x6, x7]) (st2 := []) (s2 := u) rfl ?_
    refine zs_X10_goesFrom_in1_L43 (s := u) (D0 := u 39) (by omega) (by rw [g0 35 (by decide)]; exact hS) hI hh hf (fun y c2 y4 y5 y6 y7 hy1 hy2 => ?_) _ 0 _ _ _ _ _ rfl (by omega) (fun i _ => rfl) ⟨g1, fun v _ => Int.le_refl _, fun j _ _ hj => absurd hj (by omega), Or.inl ⟨rfl, fun v _ => rfl⟩⟩
    rcases hy2.2.2.2 with ⟨rfl, _⟩ | ⟨rfl, hlt⟩
    · refine az_to 1 (pc2 := 35) (lv2 := [some (az_r 34), some (az_i f), some (az_i 1), some (az_i 0), y4, y5, y6, y7]) (st2 := [az_i 0]) (s2 := y) rfl ?_
      refine az_ifc 148 38 rfl (by decide) ⟨by decide, by decide⟩ (fun _ => ?_) (fun h => absurd (show az_cnd _ _ _ by unfold az_cnd; decide) h)
      refine az_ret0 rfl rfl ?_
      exact ⟨rfl, zBj_end hy2, fun i hi => by rw [hy1 i hi]; exact g0 i hi⟩
    · have h0 := zs_le (n := 6) (f := y 39) (a := 0) (b := 9999) hy2.1.2.1
      refine ih (zs 6 (y 39)).toNat (by omega) y _ _ _ _ rfl (fun i hi => by rw [hy1 i hi]; exact g0 i hi) hy2.1
set_option maxRecDepth 100000 in
set_option maxHeartbeats 800000 in
theorem zs_X10_goesFrom_1_L2 {d : Nat} {s : az_S} (hd : 5 ≤ d) {S : zR} {h : Nat} (hS : s 35 = S) (hI : zInv S h) (hh : h ≤ 10000) {f : Nat} (hf : f < 6) : ∀ (mq : Nat) (k : Nat) (u : az_S), mq = 6 - k → (k ≤ 6) → (∀ v, v < k → u 39 v = if v = f then 0 else 9999) → (∀ i, i ≠ 39 → u i = s i) → az_R d am_m_X10_goesFrom 2 [some (az_r 34), some (az_i (((f : Nat) : Int))), some (az_i (1)), some (az_i (((k : Nat) : Int))), none, none, none, none] [] (u) (fun o t => o = .inl none ∧ zgd S 1 f 9999 (t 39) ∧ ∀ i, i ≠ 39 → t i = s i) := by
  intro mq
  induction mq using Nat.strongRecOn with
  | _ mq ih =>
    intro k u hm g0 g1 g2
    skip
    refine az_to 2 (pc2 := 5) (lv2 := [some (az_r 34), some (az_i (((f : Nat) : Int))), some (az_i (1)), some (az_i (((k : Nat) : Int))), none, none, none, none]) (st2 := [az_i (6), az_i (((k : Nat) : Int))]) (s2 := u) rfl ?_
    refine az_if2 32 8 rfl (by decide) (by first | assumption | exact ⟨by omega, by omega⟩) ⟨by decide, by decide⟩ (fun h1 => ?_) (fun h1 => ?_)
    · have h1 : 6 ≤ ((k : Nat) : Int) := h1
      refine az_to 2 (pc2 := 34) (lv2 := [some (az_r 34), some (az_i (((f : Nat) : Int))), some (az_i (1)), some (az_i (1)), none, none, none, none]) (st2 := []) (s2 := u) rfl ?_
      refine zs_X10_goesFrom_1_L34 (by omega) hS hI hh hf _ u _ _ _ _ rfl g2 (zes_0 (by decide) hf (fun v hv => g1 v (by omega)))
    · have h1 : ¬ (6 ≤ ((k : Nat) : Int)) := h1
      refine az_to 5 (pc2 := 15) (lv2 := [some (az_r 34), some (az_i (((f : Nat) : Int))), some (az_i (1)), some (az_i (((k : Nat) : Int))), none, none, none, none]) (st2 := [az_i (((f : Nat) : Int)), az_i (((k : Nat) : Int)), az_i (((k : Nat) : Int)), az_r 39]) (s2 := u) rfl ?_
      refine az_if2 22 18 rfl (by decide) (by first | assumption | exact ⟨by omega, by omega⟩) (by first | assumption | exact ⟨by omega, by omega⟩) (fun h2 => ?_) (fun h2 => ?_)
      · have h2 : ¬ ((k : Nat) : Int) = ((f : Nat) : Int) := h2
        refine az_to 1 (pc2 := 25) (lv2 := [some (az_r 34), some (az_i (((f : Nat) : Int))), some (az_i (1)), some (az_i (((k : Nat) : Int))), none, none, none, none]) (st2 := [az_i (9999), az_i (((k : Nat) : Int)), az_r 39]) (s2 := u) rfl ?_
        refine az_st_i 26 rfl rfl (by constructor <;> omega) ⟨by decide, rfl⟩ ?_
        refine az_to 2 (pc2 := 2) (lv2 := [some (az_r 34), some (az_i (((f : Nat) : Int))), some (az_i (1)), some (az_i ((((k : Nat) : Int) + 1))), none, none, none, none]) (st2 := []) (s2 := am_up u 39 k (9999)) rfl ?_
        exact ih _ (by omega) (k + 1) _ rfl (by omega) (fun v hv => by
          simp only [am_up, if_true]
          by_cases q : v = k
          · subst q; first | rw [if_pos rfl, if_pos (by omega)] | rw [if_pos rfl, if_neg (by omega)]
          · rw [if_neg q]; exact g1 v (by omega)) (fun i hi => by rw [← g2 i hi]; funext j; simp only [am_up, if_neg hi])
      · have h2 : ((k : Nat) : Int) = ((f : Nat) : Int) := Decidable.not_not.mp h2
        refine az_to 2 (pc2 := 25) (lv2 := [some (az_r 34), some (az_i (((f : Nat) : Int))), some (az_i (1)), some (az_i (((k : Nat) : Int))), none, none, none, none]) (st2 := [az_i (0), az_i (((k : Nat) : Int)), az_r 39]) (s2 := u) rfl ?_
        refine az_st_i 26 rfl rfl (by constructor <;> omega) ⟨by decide, rfl⟩ ?_
        refine az_to 2 (pc2 := 2) (lv2 := [some (az_r 34), some (az_i (((f : Nat) : Int))), some (az_i (1)), some (az_i ((((k : Nat) : Int) + 1))), none, none, none, none]) (st2 := []) (s2 := am_up u 39 k (0)) rfl ?_
        exact ih _ (by omega) (k + 1) _ rfl (by omega) (fun v hv => by
          simp only [am_up, if_true]
          by_cases q : v = k
          · subst q; first | rw [if_pos rfl, if_pos (by omega)] | rw [if_pos rfl, if_neg (by omega)]
          · rw [if_neg q]; exact g1 v (by omega)) (fun i hi => by rw [← g2 i hi]; funext j; simp only [am_up, if_neg hi])
set_option maxRecDepth 100000 in
set_option maxHeartbeats 800000 in
theorem zs_X10_goesFrom_1 {d : Nat} {s : az_S} (hd : 5 ≤ d) {S : zR} {h : Nat} (hS : s 35 = S) (hI : zInv S h) (hh : h ≤ 10000) {f : Nat} (hf : f < 6) : az_R d am_m_X10_goesFrom 0 (az_ini (am_mL am_m_X10_goesFrom) [az_r 34, az_i (((f : Nat) : Int)), az_i (1)]) [] (s) (fun o t => o = .inl none ∧ zgd S 1 f 9999 (t 39) ∧ ∀ i, i ≠ 39 → t i = s i) := by
  have hz := zI_h hI hh
  have hs0 : s 35 0 = ((zn S 0 : Nat) : Int) := by rw [hS, hz.2.1.1]
  have hs1 : s 35 1 = ((zn S 1 : Nat) : Int) := by rw [hS, hz.2.1.2.1]
  have hs2 : s 35 2 = ((zn S 2 : Nat) : Int) := by rw [hS, hz.2.1.2.2]
  have hs3 : s 35 3 = S 3 := by rw [hS]
  have hs5 : s 35 5 = S 5 := by rw [hS]
  refine az_to 0 (pc2 := 0) (lv2 := [some (az_r 34), some (az_i (((f : Nat) : Int))), some (az_i (1)), none, none, none, none, none]) (st2 := []) (s2 := s) rfl ?_
  refine az_to 2 (pc2 := 2) (lv2 := [some (az_r 34), some (az_i (((f : Nat) : Int))), some (az_i (1)), some (az_i (0)), none, none, none, none]) (st2 := []) (s2 := s) rfl ?_
  exact zs_X10_goesFrom_1_L2 (by omega) hS hI hh hf _ 0 s rfl (by omega) (fun v hv => absurd hv (by omega)) (fun i _ => rfl)
set_option maxRecDepth 100000 in
set_option maxHeartbeats 800000 in
theorem zs_X10_goesFrom_in0_L43 {d : Nat} {s : az_S} (hd : 5 ≤ d) {S : zR} {h : Nat} (hS : s 35 = S) (hI : zInv S h) (hh : h ≤ 10000) {f : Nat} (hf : f < 6) {D0 : Nat → Int} {Q : az_O → az_S → Prop} (K : ∀ (y : az_S) (c : Int) (x4 x5 x6 x7 : Option az_V), (∀ i, i ≠ 39 → y i = s i) → zBj S 0 f 9999 D0 (zn S 0) (y 39) c → az_R d am_m_X10_goesFrom 34 [some (az_r 34), some (az_i ((f : Nat) : Int)), some (az_i 0), some (az_i c), x4, x5, x6, x7] [] y Q) : ∀ (mq : Nat) (k : Nat) (y : az_S) (c : Int) (x5 : Option az_V) (x6 : Option az_V) (x7 : Option az_V), mq = zn S 0 - k → (k ≤ zn S 0) → (∀ i, i ≠ 39 → y i = s i) → (zBj S 0 f 9999 D0 k (y 39) c) → az_R d am_m_X10_goesFrom 43 [some (az_r 34), some (az_i (((f : Nat) : Int))), some (az_i (0)), some (az_i (c)), some (az_i (((k : Nat) : Int))), x5, x6, x7] [] (y) (Q) := by
  intro mq
  induction mq using Nat.strongRecOn with
  | _ mq ih =>
    intro k y c x5 x6 x7 hm g0 g1 g2
    have hz := zI_h hI hh
    have hSy : y 35 = S := by rw [g1 35 (by decide)]; exact hS
    have hc01 : c = 0 ∨ c = 1 := by rcases g2.2.2.2 with q | q <;> omega
    refine az_to 4 (pc2 := 50) (lv2 := [some (az_r 34), some (az_i (((f : Nat) : Int))), some (az_i (0)), some (az_i (c)), some (az_i (((k : Nat) : Int))), x5, x6, x7]) (st2 := [az_i (0), az_r 35, az_i (((k : Nat) : Int))]) (s2 := y) rfl ?_
    refine az_ld_i 51 rfl rfl (by constructor <;> omega) ⟨by decide, rfl⟩ ?_
    refine az_to 0 (pc2 := 51) (lv2 := [some (az_r 34), some (az_i (((f : Nat) : Int))), some (az_i (0)), some (az_i (c)), some (az_i (((k : Nat) : Int))), x5, x6, x7]) (st2 := [az_i (y 35 0), az_i (((k : Nat) : Int))]) (s2 := y) rfl ?_
    refine az_to 0 (pc2 := 51) (lv2 := [some (az_r 34), some (az_i (((f : Nat) : Int))), some (az_i (0)), some (az_i (c)), some (az_i (((k : Nat) : Int))), x5, x6, x7]) (st2 := [az_i (((zn S 0 : Nat) : Int)), az_i (((k : Nat) : Int))]) (s2 := y) (by rw [show y 35 0 = ((zn S 0 : Nat) : Int) from (by rw [hSy, hz.2.1.1])]; rfl) ?_
    refine az_if2 145 54 rfl (by decide) (by first | assumption | exact ⟨by omega, by omega⟩) (by first | assumption | exact ⟨by omega, by omega⟩) (fun h1 => ?_) (fun h1 => ?_)
    · have h1 : ((zn S 0 : Nat) : Int) ≤ ((k : Nat) : Int) := h1
      refine az_to 1 (pc2 := 34) (lv2 := [some (az_r 34), some (az_i (((f : Nat) : Int))), some (az_i (0)), some (az_i (c)), some (az_i (((k : Nat) : Int))), x5, x6, x7]) (st2 := []) (s2 := y) rfl ?_
      obtain rfl : k = zn S 0 := by omega
      exact K y _ _ _ _ _ g1 g2
    · have h1 : ¬ (((zn S 0 : Nat) : Int) ≤ ((k : Nat) : Int)) := h1
      refine az_to 1 (pc2 := 55) (lv2 := [some (az_r 34), some (az_i (((f : Nat) : Int))), some (az_i (0)), some (az_i (c)), some (az_i (((k : Nat) : Int))), x5, x6, x7]) (st2 := [az_i (0)]) (s2 := y) rfl ?_
      refine az_ifc 67 58 rfl (by decide) ⟨by decide, by decide⟩ (fun _ => ?_) (fun h => absurd (show az_cnd _ _ _ by unfold az_cnd; decide) h)
      refine az_to 2 (pc2 := 70) (lv2 := [some (az_r 34), some (az_i (((f : Nat) : Int))), some (az_i (0)), some (az_i (c)), some (az_i (((k : Nat) : Int))), x5, x6, x7]) (st2 := [az_i (((k : Nat) : Int)), az_r 34]) (s2 := y) rfl ?_
      refine az_clv (v := some (az_i (zdue S k))) (t := y) (m2 := am_m_X10_dueAt) (as := [az_r 34, az_i (((k : Nat) : Int))]) (rest := []) 73 rfl rfl ⟨rfl, rfl⟩ (by omega) (zs_X10_dueAt (s := y) (b := k) (by omega) hSy hI hh (by omega)) ?_
      refine az_to 0 (pc2 := 73) (lv2 := [some (az_r 34), some (az_i (((f : Nat) : Int))), some (az_i (0)), some (az_i (c)), some (az_i (((k : Nat) : Int))), x5, x6, x7]) (st2 := [az_i (zdue S k)]) (s2 := y) rfl ?_
      have hlk := zln_r hI hh (m := 0) (b := k) (by omega)
      refine az_to 0 (pc2 := 73) (lv2 := [some (az_r 34), some (az_i (((f : Nat) : Int))), some (az_i (0)), some (az_i (c)), some (az_i (((k : Nat) : Int))), x5, x6, x7]) (st2 := [az_i (zln S 0 k)]) (s2 := y) (rfl) ?_
      refine az_to 5 (pc2 := 80) (lv2 := [some (az_r 34), some (az_i (((f : Nat) : Int))), some (az_i (0)), some (az_i (c)), some (az_i (((k : Nat) : Int))), some (az_i (zln S 0 k)), x6, x7]) (st2 := [az_i (0), az_i (((k : Nat) : Int)), az_r 34, az_r 34]) (s2 := y) rfl ?_
      refine az_clv (v := some (az_i (zB S k 0))) (t := y) (m2 := am_m_X10_of) (as := [az_r 34, az_i (((k : Nat) : Int)), az_i (0)]) (rest := [az_r 34]) 83 rfl rfl ⟨rfl, rfl⟩ (by omega) (zs_X10_of (s := y) (b := k) (k := 0) (by omega) hSy (by omega) (by omega)) ?_
      refine az_to 0 (pc2 := 83) (lv2 := [some (az_r 34), some (az_i (((f : Nat) : Int))), some (az_i (0)), some (az_i (c)), some (az_i (((k : Nat) : Int))), some (az_i (zln S 0 k)), x6, x7]) (st2 := [az_i (zB S k 0), az_r 34]) (s2 := y) rfl ?_
      have hzb := zI_b hI hh (b := k) (by omega)
      obtain ⟨e0, he0⟩ : ∃ n : Nat, zB S k 0 = n := ⟨(zB S k 0).toNat, by omega⟩
      refine az_to 0 (pc2 := 83) (lv2 := [some (az_r 34), some (az_i (((f : Nat) : Int))), some (az_i (0)), some (az_i (c)), some (az_i (((k : Nat) : Int))), some (az_i (zln S 0 k)), x6, x7]) (st2 := [az_i (((e0 : Nat) : Int)), az_r 34]) (s2 := y) (by rw [he0]; rfl) ?_
      refine az_to 3 (pc2 := 87) (lv2 := [some (az_r 34), some (az_i (((f : Nat) : Int))), some (az_i (0)), some (az_i (c)), some (az_i (((k : Nat) : Int))), some (az_i (zln S 0 k)), x6, x7]) (st2 := [az_i (1), az_i (((k : Nat) : Int)), az_r 34, az_i (((e0 : Nat) : Int)), az_r 34]) (s2 := y) rfl ?_
      refine az_clv (v := some (az_i (zB S k 1))) (t := y) (m2 := am_m_X10_of) (as := [az_r 34, az_i (((k : Nat) : Int)), az_i (1)]) (rest := [az_i (((e0 : Nat) : Int)), az_r 34]) 90 rfl rfl ⟨rfl, rfl⟩ (by omega) (zs_X10_of (s := y) (b := k) (k := 1) (by omega) hSy (by omega) (by omega)) ?_
      refine az_to 0 (pc2 := 90) (lv2 := [some (az_r 34), some (az_i (((f : Nat) : Int))), some (az_i (0)), some (az_i (c)), some (az_i (((k : Nat) : Int))), some (az_i (zln S 0 k)), x6, x7]) (st2 := [az_i (zB S k 1), az_i (((e0 : Nat) : Int)), az_r 34]) (s2 := y) rfl ?_
      have hzb := zI_b hI hh (b := k) (by omega)
      obtain ⟨e1, he1⟩ : ∃ n : Nat, zB S k 1 = n := ⟨(zB S k 1).toNat, by omega⟩
      have hru := g2.1.2.1
      have hed : zed S k e0 e1 := Or.inl ⟨he0, he1⟩
      refine az_to 0 (pc2 := 90) (lv2 := [some (az_r 34), some (az_i (((f : Nat) : Int))), some (az_i (0)), some (az_i (c)), some (az_i (((k : Nat) : Int))), some (az_i (zln S 0 k)), x6, x7]) (st2 := [az_i (((e1 : Nat) : Int)), az_i (((e0 : Nat) : Int)), az_r 34]) (s2 := y) (by rw [he1]; rfl) ?_
      refine az_to 1 (pc2 := 92) (lv2 := [some (az_r 34), some (az_i (((f : Nat) : Int))), some (az_i (0)), some (az_i (c)), some (az_i (((k : Nat) : Int))), some (az_i (zln S 0 k)), x6, x7]) (st2 := [az_i (zln S 0 k), az_i (((e1 : Nat) : Int)), az_i (((e0 : Nat) : Int)), az_r 34]) (s2 := y) rfl ?_
      refine az_cl (m2 := am_m_X10_isLower) (as := [az_r 34, az_i (((e0 : Nat) : Int)), az_i (((e1 : Nat) : Int)), az_i (zln S 0 k)]) (rest := []) 95 rfl rfl ⟨rfl, rfl⟩ (by omega) (zs_X10_isLower (s := y) (u := e0) (v := e1) (l := (zln S 0 k)) (by omega) (by omega) (by omega) hlk hru) (fun v2 t2 q2 => ?_) (fun E t2 q2 => by cases q2.1)
      obtain ⟨o2, ff2, gg2⟩ := q2
      cases o2
      refine az_to 0 (pc2 := 95) (lv2 := [some (az_r 34), some (az_i (((f : Nat) : Int))), some (az_i (0)), some (az_i (c)), some (az_i (((k : Nat) : Int))), some (az_i (zln S 0 k)), x6, x7]) (st2 := [az_i (az_b (y 39 e0 + (zln S 0 k) < y 39 e1))]) (s2 := t2) rfl ?_
      have hru : ∀ w, w < 6 → 0 ≤ t2 39 w ∧ t2 39 w ≤ 9999 := by
        have q := (zes_rl hI hh (m := 0) hf (by omega) hed g2.1).2.1
        rw [← ff2] at q
        exact q
      have hSt : t2 35 = S := by rw [gg2 35 (by decide)]; exact hSy
      refine az_to 5 (pc2 := 102) (lv2 := [some (az_r 34), some (az_i (((f : Nat) : Int))), some (az_i (0)), some (az_i (c)), some (az_i (((k : Nat) : Int))), some (az_i (zln S 0 k)), some (az_i (az_b (y 39 e0 + (zln S 0 k) < y 39 e1))), x7]) (st2 := [az_i (1), az_i (((k : Nat) : Int)), az_r 34, az_r 34]) (s2 := t2) rfl ?_
      refine az_clv (v := some (az_i (zB S k 1))) (t := t2) (m2 := am_m_X10_of) (as := [az_r 34, az_i (((k : Nat) : Int)), az_i (1)]) (rest := [az_r 34]) 105 rfl rfl ⟨rfl, rfl⟩ (by omega) (zs_X10_of (s := t2) (b := k) (k := 1) (by omega) hSt (by omega) (by omega)) ?_
      refine az_to 0 (pc2 := 105) (lv2 := [some (az_r 34), some (az_i (((f : Nat) : Int))), some (az_i (0)), some (az_i (c)), some (az_i (((k : Nat) : Int))), some (az_i (zln S 0 k)), some (az_i (az_b (y 39 e0 + (zln S 0 k) < y 39 e1))), x7]) (st2 := [az_i (zB S k 1), az_r 34]) (s2 := t2) rfl ?_
      refine az_to 0 (pc2 := 105) (lv2 := [some (az_r 34), some (az_i (((f : Nat) : Int))), some (az_i (0)), some (az_i (c)), some (az_i (((k : Nat) : Int))), some (az_i (zln S 0 k)), some (az_i (az_b (y 39 e0 + (zln S 0 k) < y 39 e1))), x7]) (st2 := [az_i (((e1 : Nat) : Int)), az_r 34]) (s2 := t2) (by rw [he1]; rfl) ?_
      refine az_to 3 (pc2 := 109) (lv2 := [some (az_r 34), some (az_i (((f : Nat) : Int))), some (az_i (0)), some (az_i (c)), some (az_i (((k : Nat) : Int))), some (az_i (zln S 0 k)), some (az_i (az_b (y 39 e0 + (zln S 0 k) < y 39 e1))), x7]) (st2 := [az_i (0), az_i (((k : Nat) : Int)), az_r 34, az_i (((e1 : Nat) : Int)), az_r 34]) (s2 := t2) rfl ?_
      refine az_clv (v := some (az_i (zB S k 0))) (t := t2) (m2 := am_m_X10_of) (as := [az_r 34, az_i (((k : Nat) : Int)), az_i (0)]) (rest := [az_i (((e1 : Nat) : Int)), az_r 34]) 112 rfl rfl ⟨rfl, rfl⟩ (by omega) (zs_X10_of (s := t2) (b := k) (k := 0) (by omega) hSt (by omega) (by omega)) ?_
      refine az_to 0 (pc2 := 112) (lv2 := [some (az_r 34), some (az_i (((f : Nat) : Int))), some (az_i (0)), some (az_i (c)), some (az_i (((k : Nat) : Int))), some (az_i (zln S 0 k)), some (az_i (az_b (y 39 e0 + (zln S 0 k) < y 39 e1))), x7]) (st2 := [az_i (zB S k 0), az_i (((e1 : Nat) : Int)), az_r 34]) (s2 := t2) rfl ?_
      refine az_to 0 (pc2 := 112) (lv2 := [some (az_r 34), some (az_i (((f : Nat) : Int))), some (az_i (0)), some (az_i (c)), some (az_i (((k : Nat) : Int))), some (az_i (zln S 0 k)), some (az_i (az_b (y 39 e0 + (zln S 0 k) < y 39 e1))), x7]) (st2 := [az_i (((e0 : Nat) : Int)), az_i (((e1 : Nat) : Int)), az_r 34]) (s2 := t2) (by rw [he0]; rfl) ?_
      refine az_to 1 (pc2 := 114) (lv2 := [some (az_r 34), some (az_i (((f : Nat) : Int))), some (az_i (0)), some (az_i (c)), some (az_i (((k : Nat) : Int))), some (az_i (zln S 0 k)), some (az_i (az_b (y 39 e0 + (zln S 0 k) < y 39 e1))), x7]) (st2 := [az_i (zln S 0 k), az_i (((e0 : Nat) : Int)), az_i (((e1 : Nat) : Int)), az_r 34]) (s2 := t2) rfl ?_
      refine az_cl (m2 := am_m_X10_isLower) (as := [az_r 34, az_i (((e1 : Nat) : Int)), az_i (((e0 : Nat) : Int)), az_i (zln S 0 k)]) (rest := []) 117 rfl rfl ⟨rfl, rfl⟩ (by omega) (zs_X10_isLower (s := t2) (u := e1) (v := e0) (l := (zln S 0 k)) (by omega) (by omega) (by omega) hlk hru) (fun v3 t3 q3 => ?_) (fun E t3 q3 => by cases q3.1)
      obtain ⟨o3, ff3, gg3⟩ := q3
      cases o3
      refine az_to 0 (pc2 := 117) (lv2 := [some (az_r 34), some (az_i (((f : Nat) : Int))), some (az_i (0)), some (az_i (c)), some (az_i (((k : Nat) : Int))), some (az_i (zln S 0 k)), some (az_i (az_b (y 39 e0 + (zln S 0 k) < y 39 e1))), x7]) (st2 := [az_i (az_b (t2 39 e1 + (zln S 0 k) < t2 39 e0))]) (s2 := t3) rfl ?_
      refine az_to 2 (pc2 := 120) (lv2 := [some (az_r 34), some (az_i (((f : Nat) : Int))), some (az_i (0)), some (az_i (c)), some (az_i (((k : Nat) : Int))), some (az_i (zln S 0 k)), some (az_i (az_b (y 39 e0 + (zln S 0 k) < y 39 e1))), some (az_i (az_b (t2 39 e1 + (zln S 0 k) < t2 39 e0)))]) (st2 := [az_i (c)]) (s2 := t3) rfl ?_
      refine az_ifc 133 123 rfl (by decide) (by first | assumption | exact ⟨by omega, by omega⟩) (fun h4 => ?_) (fun h4 => ?_)
      · have h4 : ¬ c = 0 := h4
        refine az_to 5 (pc2 := 43) (lv2 := [some (az_r 34), some (az_i (((f : Nat) : Int))), some (az_i (0)), some (az_i (1)), some (az_i ((((k : Nat) : Int) + 1))), some (az_i (zln S 0 k)), some (az_i (az_b (y 39 e0 + (zln S 0 k) < y 39 e1))), some (az_i (az_b (t2 39 e1 + (zln S 0 k) < t2 39 e0)))]) (st2 := []) (s2 := t3) rfl ?_
        refine ih _ (by omega) (k + 1) _ _ _ _ _ rfl (by omega) (fun i hi => by rw [gg3 i hi, gg2 i hi]; exact g1 i hi) ?_
        have hc01 : c = 0 ∨ c = 1 := by rcases g2.2.2.2 with q | q <;> omega
        rw [ff3, ff2]
        refine zBj_st hI hh hf (by omega) he0 he1 g2 ?_
        rw [← ff2]
        omega
      · have h4 : c = 0 := Decidable.not_not.mp h4
        refine az_to 1 (pc2 := 125) (lv2 := [some (az_r 34), some (az_i (((f : Nat) : Int))), some (az_i (0)), some (az_i (c)), some (az_i (((k : Nat) : Int))), some (az_i (zln S 0 k)), some (az_i (az_b (y 39 e0 + (zln S 0 k) < y 39 e1))), some (az_i (az_b (t2 39 e1 + (zln S 0 k) < t2 39 e0)))]) (st2 := [az_i (az_b (y 39 e0 + (zln S 0 k) < y 39 e1))]) (s2 := t3) rfl ?_
        refine az_ifbn 133 128 rfl (by decide) (fun h5 => ?_) (fun h5 => ?_)
        · have h5 : y 39 e0 + (zln S 0 k) < y 39 e1 := h5
          refine az_to 5 (pc2 := 43) (lv2 := [some (az_r 34), some (az_i (((f : Nat) : Int))), some (az_i (0)), some (az_i (1)), some (az_i ((((k : Nat) : Int) + 1))), some (az_i (zln S 0 k)), some (az_i (az_b (y 39 e0 + (zln S 0 k) < y 39 e1))), some (az_i (az_b (t2 39 e1 + (zln S 0 k) < t2 39 e0)))]) (st2 := []) (s2 := t3) rfl ?_
          refine ih _ (by omega) (k + 1) _ _ _ _ _ rfl (by omega) (fun i hi => by rw [gg3 i hi, gg2 i hi]; exact g1 i hi) ?_
          have hc01 : c = 0 ∨ c = 1 := by rcases g2.2.2.2 with q | q <;> omega
          rw [ff3, ff2]
          refine zBj_st hI hh hf (by omega) he0 he1 g2 ?_
          rw [← ff2]
          omega
        · have h5 : ¬ (y 39 e0 + (zln S 0 k) < y 39 e1) := h5
          refine az_to 1 (pc2 := 130) (lv2 := [some (az_r 34), some (az_i (((f : Nat) : Int))), some (az_i (0)), some (az_i (c)), some (az_i (((k : Nat) : Int))), some (az_i (zln S 0 k)), some (az_i (az_b (y 39 e0 + (zln S 0 k) < y 39 e1))), some (az_i (az_b (t2 39 e1 + (zln S 0 k) < t2 39 e0)))]) (st2 := [az_i (az_b (t2 39 e1 + (zln S 0 k) < t2 39 e0))]) (s2 := t3) rfl ?_
          refine az_ifbe 137 133 rfl (by decide) (fun h6 => ?_) (fun h6 => ?_)
          · have h6 : ¬ (t2 39 e1 + (zln S 0 k) < t2 39 e0) := h6
            refine az_to 4 (pc2 := 43) (lv2 := [some (az_r 34), some (az_i (((f : Nat) : Int))), some (az_i (0)), some (az_i (0)), some (az_i ((((k : Nat) : Int) + 1))), some (az_i (zln S 0 k)), some (az_i (az_b (y 39 e0 + (zln S 0 k) < y 39 e1))), some (az_i (az_b (t2 39 e1 + (zln S 0 k) < t2 39 e0)))]) (st2 := []) (s2 := t3) rfl ?_
            refine ih _ (by omega) (k + 1) _ _ _ _ _ rfl (by omega) (fun i hi => by rw [gg3 i hi, gg2 i hi]; exact g1 i hi) ?_
            have hc01 : c = 0 ∨ c = 1 := by rcases g2.2.2.2 with q | q <;> omega
            rw [ff3, ff2]
            refine zBj_st hI hh hf (by omega) he0 he1 g2 ?_
            rw [← ff2]
            omega
          · have h6 : t2 39 e1 + (zln S 0 k) < t2 39 e0 := h6
            refine az_to 5 (pc2 := 43) (lv2 := [some (az_r 34), some (az_i (((f : Nat) : Int))), some (az_i (0)), some (az_i (1)), some (az_i ((((k : Nat) : Int) + 1))), some (az_i (zln S 0 k)), some (az_i (az_b (y 39 e0 + (zln S 0 k) < y 39 e1))), some (az_i (az_b (t2 39 e1 + (zln S 0 k) < t2 39 e0)))]) (st2 := []) (s2 := t3) rfl ?_
            refine ih _ (by omega) (k + 1) _ _ _ _ _ rfl (by omega) (fun i hi => by rw [gg3 i hi, gg2 i hi]; exact g1 i hi) ?_
            have hc01 : c = 0 ∨ c = 1 := by rcases g2.2.2.2 with q | q <;> omega
            rw [ff3, ff2]
            refine zBj_st hI hh hf (by omega) he0 he1 g2 ?_
            rw [← ff2]
            omega
set_option maxRecDepth 100000 in
set_option maxHeartbeats 800000 in
theorem zs_X10_goesFrom_0_L34 {d : Nat} {s : az_S} (hd : 5 ≤ d) {S : zR} {h : Nat} (hS : s 35 = S) (hI : zInv S h) (hh : h ≤ 10000) {f : Nat} (hf : f < 6) : ∀ (mq : Nat) (u : az_S) (x4 : Option az_V) (x5 : Option az_V) (x6 : Option az_V) (x7 : Option az_V), mq = (zs 6 (u 39)).toNat → (∀ i, i ≠ 39 → u i = s i) → (zes S 0 f 9999 (u 39)) → az_R d am_m_X10_goesFrom 34 [some (az_r 34), some (az_i (((f : Nat) : Int))), some (az_i (0)), some (az_i (1)), x4, x5, x6, x7] [] (u) (fun o t => o = .inl none ∧ zgd S 0 f 9999 (t 39) ∧ ∀ i, i ≠ 39 → t i = s i) := by
  intro mq
  induction mq using Nat.strongRecOn with
  | _ mq ih =>
    intro u x4 x5 x6 x7 hm g0 g1
    skip
    refine az_to 1 (pc2 := 35) (lv2 := [some (az_r 34), some (az_i (((f : Nat) : Int))), some (az_i (0)), some (az_i (1)), x4, x5, x6, x7]) (st2 := [az_i (1)]) (s2 := u) rfl ?_
    refine az_ifc 148 38 rfl (by decide) ⟨by decide, by decide⟩ (fun h => absurd h (by unfold az_cnd; decide)) (fun _ => ?_)
    refine az_to 4 (pc2 := 43) (lv2 := [some (az_r 34), some (az_i (((f : Nat) : Int))), some (az_i (0)), some (az_i (0)), some (az_i (0)), x5, x6, x7]) (st2 := []) (s2 := u) rfl ?_
    refine zs_X10_goesFrom_in0_L43 (s := u) (D0 := u 39) (by omega) (by rw [g0 35 (by decide)]; exact hS) hI hh hf (fun y c2 y4 y5 y6 y7 hy1 hy2 => ?_) _ 0 _ _ _ _ _ rfl (by omega) (fun i _ => rfl) ⟨g1, fun v _ => Int.le_refl _, fun j _ _ hj => absurd hj (by omega), Or.inl ⟨rfl, fun v _ => rfl⟩⟩
    rcases hy2.2.2.2 with ⟨rfl, _⟩ | ⟨rfl, hlt⟩
    · refine az_to 1 (pc2 := 35) (lv2 := [some (az_r 34), some (az_i f), some (az_i 0), some (az_i 0), y4, y5, y6, y7]) (st2 := [az_i 0]) (s2 := y) rfl ?_
      refine az_ifc 148 38 rfl (by decide) ⟨by decide, by decide⟩ (fun _ => ?_) (fun h => absurd (show az_cnd _ _ _ by unfold az_cnd; decide) h)
      refine az_ret0 rfl rfl ?_
      exact ⟨rfl, zBj_end hy2, fun i hi => by rw [hy1 i hi]; exact g0 i hi⟩
    · have h0 := zs_le (n := 6) (f := y 39) (a := 0) (b := 9999) hy2.1.2.1
      refine ih (zs 6 (y 39)).toNat (by omega) y _ _ _ _ rfl (fun i hi => by rw [hy1 i hi]; exact g0 i hi) hy2.1
set_option maxRecDepth 100000 in
set_option maxHeartbeats 800000 in
theorem zs_X10_goesFrom_0_L2 {d : Nat} {s : az_S} (hd : 5 ≤ d) {S : zR} {h : Nat} (hS : s 35 = S) (hI : zInv S h) (hh : h ≤ 10000) {f : Nat} (hf : f < 6) : ∀ (mq : Nat) (k : Nat) (u : az_S), mq = 6 - k → (k ≤ 6) → (∀ v, v < k → u 39 v = if v = f then 0 else 9999) → (∀ i, i ≠ 39 → u i = s i) → az_R d am_m_X10_goesFrom 2 [some (az_r 34), some (az_i (((f : Nat) : Int))), some (az_i (0)), some (az_i (((k : Nat) : Int))), none, none, none, none] [] (u) (fun o t => o = .inl none ∧ zgd S 0 f 9999 (t 39) ∧ ∀ i, i ≠ 39 → t i = s i) := by
  intro mq
  induction mq using Nat.strongRecOn with
  | _ mq ih =>
    intro k u hm g0 g1 g2
    skip
    refine az_to 2 (pc2 := 5) (lv2 := [some (az_r 34), some (az_i (((f : Nat) : Int))), some (az_i (0)), some (az_i (((k : Nat) : Int))), none, none, none, none]) (st2 := [az_i (6), az_i (((k : Nat) : Int))]) (s2 := u) rfl ?_
    refine az_if2 32 8 rfl (by decide) (by first | assumption | exact ⟨by omega, by omega⟩) ⟨by decide, by decide⟩ (fun h1 => ?_) (fun h1 => ?_)
    · have h1 : 6 ≤ ((k : Nat) : Int) := h1
      refine az_to 2 (pc2 := 34) (lv2 := [some (az_r 34), some (az_i (((f : Nat) : Int))), some (az_i (0)), some (az_i (1)), none, none, none, none]) (st2 := []) (s2 := u) rfl ?_
      refine zs_X10_goesFrom_0_L34 (by omega) hS hI hh hf _ u _ _ _ _ rfl g2 (zes_0 (by decide) hf (fun v hv => g1 v (by omega)))
    · have h1 : ¬ (6 ≤ ((k : Nat) : Int)) := h1
      refine az_to 5 (pc2 := 15) (lv2 := [some (az_r 34), some (az_i (((f : Nat) : Int))), some (az_i (0)), some (az_i (((k : Nat) : Int))), none, none, none, none]) (st2 := [az_i (((f : Nat) : Int)), az_i (((k : Nat) : Int)), az_i (((k : Nat) : Int)), az_r 39]) (s2 := u) rfl ?_
      refine az_if2 22 18 rfl (by decide) (by first | assumption | exact ⟨by omega, by omega⟩) (by first | assumption | exact ⟨by omega, by omega⟩) (fun h2 => ?_) (fun h2 => ?_)
      · have h2 : ¬ ((k : Nat) : Int) = ((f : Nat) : Int) := h2
        refine az_to 1 (pc2 := 25) (lv2 := [some (az_r 34), some (az_i (((f : Nat) : Int))), some (az_i (0)), some (az_i (((k : Nat) : Int))), none, none, none, none]) (st2 := [az_i (9999), az_i (((k : Nat) : Int)), az_r 39]) (s2 := u) rfl ?_
        refine az_st_i 26 rfl rfl (by constructor <;> omega) ⟨by decide, rfl⟩ ?_
        refine az_to 2 (pc2 := 2) (lv2 := [some (az_r 34), some (az_i (((f : Nat) : Int))), some (az_i (0)), some (az_i ((((k : Nat) : Int) + 1))), none, none, none, none]) (st2 := []) (s2 := am_up u 39 k (9999)) rfl ?_
        exact ih _ (by omega) (k + 1) _ rfl (by omega) (fun v hv => by
          simp only [am_up, if_true]
          by_cases q : v = k
          · subst q; first | rw [if_pos rfl, if_pos (by omega)] | rw [if_pos rfl, if_neg (by omega)]
          · rw [if_neg q]; exact g1 v (by omega)) (fun i hi => by rw [← g2 i hi]; funext j; simp only [am_up, if_neg hi])
      · have h2 : ((k : Nat) : Int) = ((f : Nat) : Int) := Decidable.not_not.mp h2
        refine az_to 2 (pc2 := 25) (lv2 := [some (az_r 34), some (az_i (((f : Nat) : Int))), some (az_i (0)), some (az_i (((k : Nat) : Int))), none, none, none, none]) (st2 := [az_i (0), az_i (((k : Nat) : Int)), az_r 39]) (s2 := u) rfl ?_
        refine az_st_i 26 rfl rfl (by constructor <;> omega) ⟨by decide, rfl⟩ ?_
        refine az_to 2 (pc2 := 2) (lv2 := [some (az_r 34), some (az_i (((f : Nat) : Int))), some (az_i (0)), some (az_i ((((k : Nat) : Int) + 1))), none, none, none, none]) (st2 := []) (s2 := am_up u 39 k (0)) rfl ?_
        exact ih _ (by omega) (k + 1) _ rfl (by omega) (fun v hv => by
          simp only [am_up, if_true]
          by_cases q : v = k
          · subst q; first | rw [if_pos rfl, if_pos (by omega)] | rw [if_pos rfl, if_neg (by omega)]
          · rw [if_neg q]; exact g1 v (by omega)) (fun i hi => by rw [← g2 i hi]; funext j; simp only [am_up, if_neg hi])
set_option maxRecDepth 100000 in
set_option maxHeartbeats 800000 in
theorem zs_X10_goesFrom_0 {d : Nat} {s : az_S} (hd : 5 ≤ d) {S : zR} {h : Nat} (hS : s 35 = S) (hI : zInv S h) (hh : h ≤ 10000) {f : Nat} (hf : f < 6) : az_R d am_m_X10_goesFrom 0 (az_ini (am_mL am_m_X10_goesFrom) [az_r 34, az_i (((f : Nat) : Int)), az_i (0)]) [] (s) (fun o t => o = .inl none ∧ zgd S 0 f 9999 (t 39) ∧ ∀ i, i ≠ 39 → t i = s i) := by
  have hz := zI_h hI hh
  have hs0 : s 35 0 = ((zn S 0 : Nat) : Int) := by rw [hS, hz.2.1.1]
  have hs1 : s 35 1 = ((zn S 1 : Nat) : Int) := by rw [hS, hz.2.1.2.1]
  have hs2 : s 35 2 = ((zn S 2 : Nat) : Int) := by rw [hS, hz.2.1.2.2]
  have hs3 : s 35 3 = S 3 := by rw [hS]
  have hs5 : s 35 5 = S 5 := by rw [hS]
  refine az_to 0 (pc2 := 0) (lv2 := [some (az_r 34), some (az_i (((f : Nat) : Int))), some (az_i (0)), none, none, none, none, none]) (st2 := []) (s2 := s) rfl ?_
  refine az_to 2 (pc2 := 2) (lv2 := [some (az_r 34), some (az_i (((f : Nat) : Int))), some (az_i (0)), some (az_i (0)), none, none, none, none]) (st2 := []) (s2 := s) rfl ?_
  exact zs_X10_goesFrom_0_L2 (by omega) hS hI hh hf _ 0 s rfl (by omega) (fun v hv => absurd hv (by omega)) (fun i _ => rfl)
