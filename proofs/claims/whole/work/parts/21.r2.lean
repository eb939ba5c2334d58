/-! REFERENCE, 2: the commands; written by program (wip/tools/zg/r2.py) -/
/-- what became of a command in the reference; w: how it tells 'out of range' -/
def zth (c : Nat) (w : Int) : Int := if c = 3 then 9 else if c = 2 then w else c
def zMo (s t : az_S) (r : zQ) (w : Int) : Prop :=
  t 35 = r.2.2.2 ∧ t 34 6 = zth r.1 w ∧ (r.1 = 3 → t 34 7 = r.2.1 ∧ t 34 8 = r.2.2.1 ∧ t 34 9 = 0) ∧ (r.1 ≠ 3 → t 34 7 = s 34 7 ∧ t 34 8 = s 34 8 ∧ t 34 9 = s 34 9) ∧ (∀ j, j ≠ 6 → j ≠ 7 → j ≠ 8 → j ≠ 9 → t 34 j = s 34 j) ∧ (∀ i, i ≠ 34 → i ≠ 35 → t i = s i)
abbrev zMq (s : az_S) (r : zQ) (w : Int) : az_O → az_S → Prop := fun o t => o = .inl (some (az_i (if r.1 = 0 then r.2.1 else 0))) ∧ zMo s t r w
def zzk (S : zR) (n k : Nat) : zR := fun j => if 6 + 12 * n ≤ j ∧ j < 6 + 12 * n + k then 0 else S j
theorem zzk_0 (S : zR) (n : Nat) : zzk S n 0 = S := by
  funext j
  exact if_neg (by omega)
theorem zzk_s (S : zR) (n k : Nat) : zup (zzk S n k) (6 + 12 * n + k) 0 = zzk S n (k + 1) := by
  funext j
  unfold zup zzk
  by_cases q : j = 6 + 12 * n + k
  · rw [if_pos q, if_pos (by omega)]
  · rw [if_neg q]
    by_cases q2 : 6 + 12 * n ≤ j ∧ j < 6 + 12 * n + k
    · rw [if_pos q2, if_pos (by omega)]
    · rw [if_neg q2, if_neg (by omega)]
theorem zhl_d {S : zR} {h : Nat} (hI : zInv S h) (hh : h ≤ 10000) {n : Int} (hn : 1 ≤ n ∧ n ≤ 48) : zhl S - zhl (zup S 3 (S 3 + n)) = zcr S n := by
  have hz := zI_h hI hh
  have e1 : zn (zup S 3 (S 3 + n)) 1 = zn S 1 := zn_up (by omega)
  have key : ∀ m, m ≤ zn S 1 → zs m (fun t => az_b (S 3 < zT S t 3)) - zs m (fun t => az_b (zup S 3 (S 3 + n) 3 < zT (zup S 3 (S 3 + n)) t 3)) = zs m (fun t => az_b (1 ≤ zrh S t ∧ zrh S t ≤ n)) := by
    intro m
    induction m with
    | zero => intro _; rfl
    | succ m ih =>
      intro hm
      have := ih (by omega)
      have e2 : zT (zup S 3 (S 3 + n)) m 3 = zT S m 3 := zup_ne _ _ (by omega)
      have e3 : zup S 3 (S 3 + n) 3 = S 3 + n := zup_eq _ _ _
      have hd := zrh_d (S := S) (t := m)
      have k1 : az_b (S 3 < zT S m 3) - az_b (zup S 3 (S 3 + n) 3 < zT (zup S 3 (S 3 + n)) m 3) = az_b (1 ≤ zrh S m ∧ zrh S m ≤ n) := by
        rw [e2, e3]
        by_cases q : S 3 < zT S m 3
        · have := hd.1 q
          rw [az_b1 q]
          by_cases q2 : S 3 + n < zT S m 3
          · rw [az_b1 q2, az_b0 (by omega)]; rfl
          · rw [az_b0 q2, az_b1 (by omega)]; rfl
        · have := hd.2 q
          rw [az_b0 q, az_b0 (by omega), az_b0 (by omega)]; rfl
      simp only [zs]
      omega
  unfold zhl zcr
  rw [e1]
  exact key _ (Nat.le_refl _)
set_option maxRecDepth 100000 in
set_option maxHeartbeats 800000 in
theorem zs_X10_isDisputed_t {d : Nat} {s : az_S} (hd : 2 ≤ d) {S : zR} {h : Nat} (hS : s 35 = S) (hI : zInv S h) (hh : h ≤ 10000) {b : Nat} (hb : b < zn S 0) (hd : 0 ≤ zB S b 5) : az_R d am_m_X10_isDisputed 0 (az_ini (am_mL am_m_X10_isDisputed) [az_r 34, az_i (((b : Nat) : Int))]) [] (s) (az_ret (some (az_i (1))) (am_up (am_up (am_up (am_up s 34 7 (10)) 34 8 (zB S b 5)) 34 9 (0)) 34 6 (9))) := by
  have hz := zI_h hI hh
  have hs0 : s 35 0 = ((zn S 0 : Nat) : Int) := by rw [hS, hz.2.1.1]
  have hs1 : s 35 1 = ((zn S 1 : Nat) : Int) := by rw [hS, hz.2.1.2.1]
  have hs2 : s 35 2 = ((zn S 2 : Nat) : Int) := by rw [hS, hz.2.1.2.2]
  have hs3 : s 35 3 = S 3 := by rw [hS]
  have hs5 : s 35 5 = S 5 := by rw [hS]
  have hzb := zI_b hI hh hb
  refine az_to 0 (pc2 := 0) (lv2 := [some (az_r 34), some (az_i (((b : Nat) : Int)))]) (st2 := []) (s2 := s) rfl ?_
  refine az_to 4 (pc2 := 4) (lv2 := [some (az_r 34), some (az_i (((b : Nat) : Int)))]) (st2 := [az_i (5), az_i (((b : Nat) : Int)), az_r 34, az_r 34]) (s2 := s) rfl ?_
  refine az_clv (v := some (az_i (zB S b 5))) (t := s) (m2 := am_m_X10_of) (as := [az_r 34, az_i (((b : Nat) : Int)), az_i (5)]) (rest := [az_r 34]) 7 rfl rfl ⟨rfl, rfl⟩ (by omega) (zs_X10_of (s := s) (b := b) (k := 5) (by omega) hS (by omega) (by omega)) ?_
  refine az_to 0 (pc2 := 7) (lv2 := [some (az_r 34), some (az_i (((b : Nat) : Int)))]) (st2 := [az_i (zB S b 5), az_r 34]) (s2 := s) rfl ?_
  refine az_ifc 14 10 rfl (by decide) (by first | assumption | exact ⟨by omega, by omega⟩) (fun h1 => ?_) (fun h1 => ?_)
  · have h1 : zB S b 5 < 0 := h1
    exact absurd h1 (by omega)
  · have h1 : ¬ (zB S b 5 < 0) := h1
    refine az_to 6 (pc2 := 20) (lv2 := [some (az_r 34), some (az_i (((b : Nat) : Int)))]) (st2 := [az_i (5), az_i (((b : Nat) : Int)), az_r 34, az_i (10), az_i (1), az_r 34]) (s2 := s) rfl ?_
    refine az_clv (v := some (az_i (zB S b 5))) (t := s) (m2 := am_m_X10_of) (as := [az_r 34, az_i (((b : Nat) : Int)), az_i (5)]) (rest := [az_i (10), az_i (1), az_r 34]) 23 rfl rfl ⟨rfl, rfl⟩ (by omega) (zs_X10_of (s := s) (b := b) (k := 5) (by omega) hS (by omega) (by omega)) ?_
    refine az_to 0 (pc2 := 23) (lv2 := [some (az_r 34), some (az_i (((b : Nat) : Int)))]) (st2 := [az_i (zB S b 5), az_i (10), az_i (1), az_r 34]) (s2 := s) rfl ?_
    refine az_clv (v := some (az_i (1))) (t := am_up (am_up (am_up (am_up s 34 7 (10)) 34 8 ((zB S b 5))) 34 9 (0)) 34 6 (9)) (m2 := am_m_X10_isRefused) (as := [az_r 34, az_i (1), az_i (10), az_i (zB S b 5)]) (rest := []) 26 rfl rfl ⟨rfl, rfl⟩ (by omega) (zs_X10_isRefused_t (s := s) (v := 10) (w := (zB S b 5)) (by omega) ) ?_
    refine az_to 0 (pc2 := 26) (lv2 := [some (az_r 34), some (az_i (((b : Nat) : Int)))]) (st2 := [az_i (1)]) (s2 := am_up (am_up (am_up (am_up s 34 7 (10)) 34 8 ((zB S b 5))) 34 9 (0)) 34 6 (9)) rfl ?_
    refine az_retB rfl rfl (by first | decide | omega | exact Or.inl rfl | exact Or.inr rfl) ?_
    exact ⟨rfl, rfl⟩
set_option maxRecDepth 100000 in
set_option maxHeartbeats 800000 in
theorem zs_X10_isDisputed_f {d : Nat} {s : az_S} (hd : 2 ≤ d) {S : zR} {h : Nat} (hS : s 35 = S) (hI : zInv S h) (hh : h ≤ 10000) {b : Nat} (hb : b < zn S 0) (hd : ¬ 0 ≤ zB S b 5) : az_R d am_m_X10_isDisputed 0 (az_ini (am_mL am_m_X10_isDisputed) [az_r 34, az_i (((b : Nat) : Int))]) [] (s) (az_ret (some (az_i (0))) (s)) := by
  have hz := zI_h hI hh
  have hs0 : s 35 0 = ((zn S 0 : Nat) : Int) := by rw [hS, hz.2.1.1]
  have hs1 : s 35 1 = ((zn S 1 : Nat) : Int) := by rw [hS, hz.2.1.2.1]
  have hs2 : s 35 2 = ((zn S 2 : Nat) : Int) := by rw [hS, hz.2.1.2.2]
  have hs3 : s 35 3 = S 3 := by rw [hS]
  have hs5 : s 35 5 = S 5 := by rw [hS]
  have hzb := zI_b hI hh hb
  refine az_to 0 (pc2 := 0) (lv2 := [some (az_r 34), some (az_i (((b : Nat) : Int)))]) (st2 := []) (s2 := s) rfl ?_
  refine az_to 4 (pc2 := 4) (lv2 := [some (az_r 34), some (az_i (((b : Nat) : Int)))]) (st2 := [az_i (5), az_i (((b : Nat) : Int)), az_r 34, az_r 34]) (s2 := s) rfl ?_
  refine az_clv (v := some (az_i (zB S b 5))) (t := s) (m2 := am_m_X10_of) (as := [az_r 34, az_i (((b : Nat) : Int)), az_i (5)]) (rest := [az_r 34]) 7 rfl rfl ⟨rfl, rfl⟩ (by omega) (zs_X10_of (s := s) (b := b) (k := 5) (by omega) hS (by omega) (by omega)) ?_
  refine az_to 0 (pc2 := 7) (lv2 := [some (az_r 34), some (az_i (((b : Nat) : Int)))]) (st2 := [az_i (zB S b 5), az_r 34]) (s2 := s) rfl ?_
  refine az_ifc 14 10 rfl (by decide) (by first | assumption | exact ⟨by omega, by omega⟩) (fun h1 => ?_) (fun h1 => ?_)
  · have h1 : zB S b 5 < 0 := h1
    refine az_to 5 (pc2 := 20) (lv2 := [some (az_r 34), some (az_i (((b : Nat) : Int)))]) (st2 := [az_i (5), az_i (((b : Nat) : Int)), az_r 34, az_i (10), az_i (0), az_r 34]) (s2 := s) rfl ?_
    refine az_clv (v := some (az_i (zB S b 5))) (t := s) (m2 := am_m_X10_of) (as := [az_r 34, az_i (((b : Nat) : Int)), az_i (5)]) (rest := [az_i (10), az_i (0), az_r 34]) 23 rfl rfl ⟨rfl, rfl⟩ (by omega) (zs_X10_of (s := s) (b := b) (k := 5) (by omega) hS (by omega) (by omega)) ?_
    refine az_to 0 (pc2 := 23) (lv2 := [some (az_r 34), some (az_i (((b : Nat) : Int)))]) (st2 := [az_i (zB S b 5), az_i (10), az_i (0), az_r 34]) (s2 := s) rfl ?_
    refine az_clv (v := some (az_i (0))) (t := s) (m2 := am_m_X10_isRefused) (as := [az_r 34, az_i (0), az_i (10), az_i (zB S b 5)]) (rest := []) 26 rfl rfl ⟨rfl, rfl⟩ (by omega) (zs_X10_isRefused_f (s := s) (v := 10) (w := (zB S b 5)) (by omega) ) ?_
    refine az_to 0 (pc2 := 26) (lv2 := [some (az_r 34), some (az_i (((b : Nat) : Int)))]) (st2 := [az_i (0)]) (s2 := s) rfl ?_
    refine az_retB rfl rfl (by first | decide | omega | exact Or.inl rfl | exact Or.inr rfl) ?_
    exact ⟨rfl, rfl⟩
  · have h1 : ¬ (zB S b 5 < 0) := h1
    exact absurd h1 (by omega)
set_option maxRecDepth 100000 in
set_option maxHeartbeats 800000 in
theorem zs_X10_builds_L121 {d : Nat} {s : az_S} (hd : 3 ≤ d) {S : zR} {h : Nat} (hS : s 35 = S) (hI : zInv S h) (hh : h ≤ 10000) {zo : Int} {zp : Int} {zq : Int} {zr : Int} (h_zo : az_in zo) (h_zp : az_in zp) (h_zq : az_in zq) (h_zr : az_in zr) : ∀ (m : Nat) (k : Nat) (u : az_S), m = 12 - k → (k ≤ 12) → (u 35 = zzk S (zn S 0) k) → (u 34 6 = 0) → (∀ j, j ≠ 6 → u 34 j = s 34 j) → (∀ i, i ≠ 34 → i ≠ 35 → u i = s i) → (¬ (¬ (0 ≤ zo ∧ zo ≤ 5) ∨ ¬ (0 ≤ zp ∧ zp ≤ 5)) ∧ ¬ (¬ (1 ≤ zq ∧ zq ≤ 9) ∨ ¬ (0 ≤ zr ∧ zr ≤ 9)) ∧ ¬ zo = zp ∧ ¬ zn S 0 = 10) → az_R d am_m_X10_builds 121 [some (az_r 34), some (az_i (zo)), some (az_i (zp)), some (az_i (zq)), some (az_i (zr)), some (az_i (((zn S 0 : Nat) : Int))), some (az_i (((k : Nat) : Int)))] [] (u) (zMq s (zo_bridge S zo zp zq zr) 2) := by
  intro m
  induction m using Nat.strongRecOn with
  | _ m ih =>
    intro k u hm g0 g1 g2 g3 g4 g5
    have hz := zI_h hI hh
    have hs0 : s 35 0 = ((zn S 0 : Nat) : Int) := by rw [hS, hz.2.1.1]
    have hs1 : s 35 1 = ((zn S 1 : Nat) : Int) := by rw [hS, hz.2.1.2.1]
    have hs2 : s 35 2 = ((zn S 2 : Nat) : Int) := by rw [hS, hz.2.1.2.2]
    have hs3 : s 35 3 = S 3 := by rw [hS]
    have hs5 : s 35 5 = S 5 := by rw [hS]
    refine az_to 2 (pc2 := 125) (lv2 := [some (az_r 34), some (az_i (zo)), some (az_i (zp)), some (az_i (zq)), some (az_i (zr)), some (az_i (((zn S 0 : Nat) : Int))), some (az_i (((k : Nat) : Int)))]) (st2 := [az_i (12), az_i (((k : Nat) : Int))]) (s2 := u) rfl ?_
    refine az_if2 143 128 rfl (by decide) (by first | assumption | exact ⟨by omega, by omega⟩) ⟨by decide, by decide⟩ (fun h1 => ?_) (fun h1 => ?_)
    · have h1 : 12 ≤ ((k : Nat) : Int) := h1
      refine az_to 4 (pc2 := 148) (lv2 := [some (az_r 34), some (az_i (zo)), some (az_i (zp)), some (az_i (zq)), some (az_i (zr)), some (az_i (((zn S 0 : Nat) : Int))), some (az_i (((k : Nat) : Int)))]) (st2 := [az_i (zo), az_i (0), az_i (((zn S 0 : Nat) : Int)), az_r 34]) (s2 := u) rfl ?_
      refine az_clv (v := none) (t := am_up u 35 (6 + 12 * (zn S 0) + 0) (zo)) (m2 := am_m_X10_sets) (as := [az_r 34, az_i (((zn S 0 : Nat) : Int)), az_i (0), az_i (zo)]) (rest := []) 151 rfl rfl ⟨rfl, rfl⟩ (by omega) (zs_X10_sets (s := u) (b := (zn S 0)) (k := 0) (v := zo) (by omega) (by omega) (by omega)) ?_
      refine az_to 0 (pc2 := 151) (lv2 := [some (az_r 34), some (az_i (zo)), some (az_i (zp)), some (az_i (zq)), some (az_i (zr)), some (az_i (((zn S 0 : Nat) : Int))), some (az_i (((k : Nat) : Int)))]) (st2 := []) (s2 := am_up u 35 (6 + 12 * (zn S 0) + 0) (zo)) rfl ?_
      refine az_to 4 (pc2 := 156) (lv2 := [some (az_r 34), some (az_i (zo)), some (az_i (zp)), some (az_i (zq)), some (az_i (zr)), some (az_i (((zn S 0 : Nat) : Int))), some (az_i (((k : Nat) : Int)))]) (st2 := [az_i (zp), az_i (1), az_i (((zn S 0 : Nat) : Int)), az_r 34]) (s2 := am_up u 35 (6 + 12 * (zn S 0) + 0) (zo)) rfl ?_
      refine az_clv (v := none) (t := am_up (am_up u 35 (6 + 12 * (zn S 0) + 0) (zo)) 35 (6 + 12 * (zn S 0) + 1) (zp)) (m2 := am_m_X10_sets) (as := [az_r 34, az_i (((zn S 0 : Nat) : Int)), az_i (1), az_i (zp)]) (rest := []) 159 rfl rfl ⟨rfl, rfl⟩ (by omega) (zs_X10_sets (s := am_up u 35 (6 + 12 * (zn S 0) + 0) (zo)) (b := (zn S 0)) (k := 1) (v := zp) (by omega) (by omega) (by omega)) ?_
      refine az_to 0 (pc2 := 159) (lv2 := [some (az_r 34), some (az_i (zo)), some (az_i (zp)), some (az_i (zq)), some (az_i (zr)), some (az_i (((zn S 0 : Nat) : Int))), some (az_i (((k : Nat) : Int)))]) (st2 := []) (s2 := am_up (am_up u 35 (6 + 12 * (zn S 0) + 0) (zo)) 35 (6 + 12 * (zn S 0) + 1) (zp)) rfl ?_
      refine az_to 4 (pc2 := 164) (lv2 := [some (az_r 34), some (az_i (zo)), some (az_i (zp)), some (az_i (zq)), some (az_i (zr)), some (az_i (((zn S 0 : Nat) : Int))), some (az_i (((k : Nat) : Int)))]) (st2 := [az_i (zq), az_i (2), az_i (((zn S 0 : Nat) : Int)), az_r 34]) (s2 := am_up (am_up u 35 (6 + 12 * (zn S 0) + 0) (zo)) 35 (6 + 12 * (zn S 0) + 1) (zp)) rfl ?_
      refine az_clv (v := none) (t := am_up (am_up (am_up u 35 (6 + 12 * (zn S 0) + 0) (zo)) 35 (6 + 12 * (zn S 0) + 1) (zp)) 35 (6 + 12 * (zn S 0) + 2) (zq)) (m2 := am_m_X10_sets) (as := [az_r 34, az_i (((zn S 0 : Nat) : Int)), az_i (2), az_i (zq)]) (rest := []) 167 rfl rfl ⟨rfl, rfl⟩ (by omega) (zs_X10_sets (s := am_up (am_up u 35 (6 + 12 * (zn S 0) + 0) (zo)) 35 (6 + 12 * (zn S 0) + 1) (zp)) (b := (zn S 0)) (k := 2) (v := zq) (by omega) (by omega) (by omega)) ?_
      refine az_to 0 (pc2 := 167) (lv2 := [some (az_r 34), some (az_i (zo)), some (az_i (zp)), some (az_i (zq)), some (az_i (zr)), some (az_i (((zn S 0 : Nat) : Int))), some (az_i (((k : Nat) : Int)))]) (st2 := []) (s2 := am_up (am_up (am_up u 35 (6 + 12 * (zn S 0) + 0) (zo)) 35 (6 + 12 * (zn S 0) + 1) (zp)) 35 (6 + 12 * (zn S 0) + 2) (zq)) rfl ?_
      refine az_to 4 (pc2 := 173) (lv2 := [some (az_r 34), some (az_i (zo)), some (az_i (zp)), some (az_i (zq)), some (az_i (zr)), some (az_i (((zn S 0 : Nat) : Int))), some (az_i (((k : Nat) : Int)))]) (st2 := [az_i (zr), az_i (3), az_i (((zn S 0 : Nat) : Int)), az_r 34]) (s2 := am_up (am_up (am_up u 35 (6 + 12 * (zn S 0) + 0) (zo)) 35 (6 + 12 * (zn S 0) + 1) (zp)) 35 (6 + 12 * (zn S 0) + 2) (zq)) rfl ?_
      refine az_clv (v := none) (t := am_up (am_up (am_up (am_up u 35 (6 + 12 * (zn S 0) + 0) (zo)) 35 (6 + 12 * (zn S 0) + 1) (zp)) 35 (6 + 12 * (zn S 0) + 2) (zq)) 35 (6 + 12 * (zn S 0) + 3) (zr)) (m2 := am_m_X10_sets) (as := [az_r 34, az_i (((zn S 0 : Nat) : Int)), az_i (3), az_i (zr)]) (rest := []) 176 rfl rfl ⟨rfl, rfl⟩ (by omega) (zs_X10_sets (s := am_up (am_up (am_up u 35 (6 + 12 * (zn S 0) + 0) (zo)) 35 (6 + 12 * (zn S 0) + 1) (zp)) 35 (6 + 12 * (zn S 0) + 2) (zq)) (b := (zn S 0)) (k := 3) (v := zr) (by omega) (by omega) (by omega)) ?_
      refine az_to 0 (pc2 := 176) (lv2 := [some (az_r 34), some (az_i (zo)), some (az_i (zp)), some (az_i (zq)), some (az_i (zr)), some (az_i (((zn S 0 : Nat) : Int))), some (az_i (((k : Nat) : Int)))]) (st2 := []) (s2 := am_up (am_up (am_up (am_up u 35 (6 + 12 * (zn S 0) + 0) (zo)) 35 (6 + 12 * (zn S 0) + 1) (zp)) 35 (6 + 12 * (zn S 0) + 2) (zq)) 35 (6 + 12 * (zn S 0) + 3) (zr)) rfl ?_
      refine az_to 4 (pc2 := 181) (lv2 := [some (az_r 34), some (az_i (zo)), some (az_i (zp)), some (az_i (zq)), some (az_i (zr)), some (az_i (((zn S 0 : Nat) : Int))), some (az_i (((k : Nat) : Int)))]) (st2 := [az_i (-1), az_i (5), az_i (((zn S 0 : Nat) : Int)), az_r 34]) (s2 := am_up (am_up (am_up (am_up u 35 (6 + 12 * (zn S 0) + 0) (zo)) 35 (6 + 12 * (zn S 0) + 1) (zp)) 35 (6 + 12 * (zn S 0) + 2) (zq)) 35 (6 + 12 * (zn S 0) + 3) (zr)) rfl ?_
      refine az_clv (v := none) (t := am_up (am_up (am_up (am_up (am_up u 35 (6 + 12 * (zn S 0) + 0) (zo)) 35 (6 + 12 * (zn S 0) + 1) (zp)) 35 (6 + 12 * (zn S 0) + 2) (zq)) 35 (6 + 12 * (zn S 0) + 3) (zr)) 35 (6 + 12 * (zn S 0) + 5) ((-1))) (m2 := am_m_X10_sets) (as := [az_r 34, az_i (((zn S 0 : Nat) : Int)), az_i (5), az_i (-1)]) (rest := []) 184 rfl rfl ⟨rfl, rfl⟩ (by omega) (zs_X10_sets (s := am_up (am_up (am_up (am_up u 35 (6 + 12 * (zn S 0) + 0) (zo)) 35 (6 + 12 * (zn S 0) + 1) (zp)) 35 (6 + 12 * (zn S 0) + 2) (zq)) 35 (6 + 12 * (zn S 0) + 3) (zr)) (b := (zn S 0)) (k := 5) (v := (-1)) (by omega) (by omega) (by omega)) ?_
      refine az_to 0 (pc2 := 184) (lv2 := [some (az_r 34), some (az_i (zo)), some (az_i (zp)), some (az_i (zq)), some (az_i (zr)), some (az_i (((zn S 0 : Nat) : Int))), some (az_i (((k : Nat) : Int)))]) (st2 := []) (s2 := am_up (am_up (am_up (am_up (am_up u 35 (6 + 12 * (zn S 0) + 0) (zo)) 35 (6 + 12 * (zn S 0) + 1) (zp)) 35 (6 + 12 * (zn S 0) + 2) (zq)) 35 (6 + 12 * (zn S 0) + 3) (zr)) 35 (6 + 12 * (zn S 0) + 5) ((-1))) rfl ?_
      refine az_to 4 (pc2 := 190) (lv2 := [some (az_r 34), some (az_i (zo)), some (az_i (zp)), some (az_i (zq)), some (az_i (zr)), some (az_i (((zn S 0 : Nat) : Int))), some (az_i (((k : Nat) : Int)))]) (st2 := [az_i (0), az_r 35, az_i (0), az_r 35]) (s2 := am_up (am_up (am_up (am_up (am_up u 35 (6 + 12 * (zn S 0) + 0) (zo)) 35 (6 + 12 * (zn S 0) + 1) (zp)) 35 (6 + 12 * (zn S 0) + 2) (zq)) 35 (6 + 12 * (zn S 0) + 3) (zr)) 35 (6 + 12 * (zn S 0) + 5) ((-1))) rfl ?_
      refine az_ld_i 191 rfl rfl (by constructor <;> omega) ⟨by decide, rfl⟩ ?_
      refine az_to 0 (pc2 := 191) (lv2 := [some (az_r 34), some (az_i (zo)), some (az_i (zp)), some (az_i (zq)), some (az_i (zr)), some (az_i (((zn S 0 : Nat) : Int))), some (az_i (((k : Nat) : Int)))]) (st2 := [az_i ((am_up (am_up (am_up (am_up (am_up u 35 (6 + 12 * (zn S 0) + 0) (zo)) 35 (6 + 12 * (zn S 0) + 1) (zp)) 35 (6 + 12 * (zn S 0) + 2) (zq)) 35 (6 + 12 * (zn S 0) + 3) (zr)) 35 (6 + 12 * (zn S 0) + 5) ((-1))) 35 0), az_i (0), az_r 35]) (s2 := am_up (am_up (am_up (am_up (am_up u 35 (6 + 12 * (zn S 0) + 0) (zo)) 35 (6 + 12 * (zn S 0) + 1) (zp)) 35 (6 + 12 * (zn S 0) + 2) (zq)) 35 (6 + 12 * (zn S 0) + 3) (zr)) 35 (6 + 12 * (zn S 0) + 5) ((-1))) rfl ?_
      refine az_to 0 (pc2 := 191) (lv2 := [some (az_r 34), some (az_i (zo)), some (az_i (zp)), some (az_i (zq)), some (az_i (zr)), some (az_i (((zn S 0 : Nat) : Int))), some (az_i (((k : Nat) : Int)))]) (st2 := [az_i (S 0), az_i (0), az_r 35]) (s2 := am_up (am_up (am_up (am_up (am_up u 35 (6 + 12 * (zn S 0) + 0) (zo)) 35 (6 + 12 * (zn S 0) + 1) (zp)) 35 (6 + 12 * (zn S 0) + 2) (zq)) 35 (6 + 12 * (zn S 0) + 3) (zr)) 35 (6 + 12 * (zn S 0) + 5) ((-1))) (by rw [show (am_up (am_up (am_up (am_up (am_up u 35 (6 + 12 * (zn S 0) + 0) (zo)) 35 (6 + 12 * (zn S 0) + 1) (zp)) 35 (6 + 12 * (zn S 0) + 2) (zq)) 35 (6 + 12 * (zn S 0) + 3) (zr)) 35 (6 + 12 * (zn S 0) + 5) ((-1))) 35 0 = S 0 from (by have e := congrFun g1 0; simp [am_up, e, zzk]; intro q; omega)]; rfl) ?_
      refine az_to 2 (pc2 := 193) (lv2 := [some (az_r 34), some (az_i (zo)), some (az_i (zp)), some (az_i (zq)), some (az_i (zr)), some (az_i (((zn S 0 : Nat) : Int))), some (az_i (((k : Nat) : Int)))]) (st2 := [az_i ((S 0 + 1)), az_i (0), az_r 35]) (s2 := am_up (am_up (am_up (am_up (am_up u 35 (6 + 12 * (zn S 0) + 0) (zo)) 35 (6 + 12 * (zn S 0) + 1) (zp)) 35 (6 + 12 * (zn S 0) + 2) (zq)) 35 (6 + 12 * (zn S 0) + 3) (zr)) 35 (6 + 12 * (zn S 0) + 5) ((-1))) rfl ?_
      refine az_st_i 194 rfl rfl (by constructor <;> omega) ⟨by decide, rfl⟩ ?_
      refine az_to 1 (pc2 := 196) (lv2 := [some (az_r 34), some (az_i (zo)), some (az_i (zp)), some (az_i (zq)), some (az_i (zr)), some (az_i (((zn S 0 : Nat) : Int))), some (az_i (((k : Nat) : Int)))]) (st2 := [az_i (((zn S 0 : Nat) : Int))]) (s2 := am_up (am_up (am_up (am_up (am_up (am_up u 35 (6 + 12 * (zn S 0) + 0) (zo)) 35 (6 + 12 * (zn S 0) + 1) (zp)) 35 (6 + 12 * (zn S 0) + 2) (zq)) 35 (6 + 12 * (zn S 0) + 3) (zr)) 35 (6 + 12 * (zn S 0) + 5) ((-1))) 35 0 ((S 0 + 1))) rfl ?_
      refine az_retI rfl rfl ?_
      have e : zo_bridge S zo zp zq zr = (0, ((zn S 0 : Nat) : Int), 0, zbS S zo zp zq zr) := by
        simp only [zo_bridge, Int.toNat_natCast]
        rw [if_neg (by omega), if_neg (by omega), if_neg (by omega), if_neg (by omega)]
      rw [e]
      exact ⟨rfl, (by
          have e9 : k = 12 := by omega
          show zup (zup (zup (zup (zup (zup (u 35) (6 + 12 * zn S 0 + 0) zo) (6 + 12 * zn S 0 + 1) zp) (6 + 12 * zn S 0 + 2) zq) (6 + 12 * zn S 0 + 3) zr) (6 + 12 * zn S 0 + 5) (-1)) 0 (S 0 + 1) = _
          rw [g1, e9]
          rfl), (by show _ = (0 : Int); rw [← g2]; simp [am_up]), (fun h => absurd (show (0 : Nat) = 3 from h) (by decide)), (fun _ => ⟨by rw [← g3 7 (by decide)]; simp [am_up], by rw [← g3 8 (by decide)]; simp [am_up], by rw [← g3 9 (by decide)]; simp [am_up]⟩), (fun j h6 h7 h8 h9 => by rw [← g3 j h6]; simp [am_up]), (fun i h1 h2 => by rw [← g4 i h1 h2]; funext j; simp [am_up, h2])⟩
    · have h1 : ¬ (12 ≤ ((k : Nat) : Int)) := h1
      refine az_to 4 (pc2 := 134) (lv2 := [some (az_r 34), some (az_i (zo)), some (az_i (zp)), some (az_i (zq)), some (az_i (zr)), some (az_i (((zn S 0 : Nat) : Int))), some (az_i (((k : Nat) : Int)))]) (st2 := [az_i (0), az_i (((k : Nat) : Int)), az_i (((zn S 0 : Nat) : Int)), az_r 34]) (s2 := u) rfl ?_
      refine az_clv (v := none) (t := am_up u 35 (6 + 12 * (zn S 0) + k) (0)) (m2 := am_m_X10_sets) (as := [az_r 34, az_i (((zn S 0 : Nat) : Int)), az_i (((k : Nat) : Int)), az_i (0)]) (rest := []) 137 rfl rfl ⟨rfl, rfl⟩ (by omega) (zs_X10_sets (s := u) (b := (zn S 0)) (k := k) (v := 0) (by omega) (by omega) (by omega)) ?_
      refine az_to 0 (pc2 := 137) (lv2 := [some (az_r 34), some (az_i (zo)), some (az_i (zp)), some (az_i (zq)), some (az_i (zr)), some (az_i (((zn S 0 : Nat) : Int))), some (az_i (((k : Nat) : Int)))]) (st2 := []) (s2 := am_up u 35 (6 + 12 * (zn S 0) + k) (0)) rfl ?_
      refine az_to 2 (pc2 := 121) (lv2 := [some (az_r 34), some (az_i (zo)), some (az_i (zp)), some (az_i (zq)), some (az_i (zr)), some (az_i (((zn S 0 : Nat) : Int))), some (az_i ((((k : Nat) : Int) + 1)))]) (st2 := []) (s2 := am_up u 35 (6 + 12 * (zn S 0) + k) (0)) rfl ?_
      exact ih _ (by omega) (k + 1) _ rfl (by omega) (by rw [← zzk_s, ← g1]; rfl) g2 g3 (fun i h1 h2 => by rw [← g4 i h1 h2]; funext j; simp [am_up, h2]) g5
set_option maxRecDepth 100000 in
set_option maxHeartbeats 800000 in
theorem zs_X10_builds {d : Nat} {s : az_S} (hd : 3 ≤ d) {S : zR} {h : Nat} (hS : s 35 = S) (hI : zInv S h) (hh : h ≤ 10000) {zo : Int} {zp : Int} {zq : Int} {zr : Int} (h_zo : az_in zo) (h_zp : az_in zp) (h_zq : az_in zq) (h_zr : az_in zr) : az_R d am_m_X10_builds 0 (az_ini (am_mL am_m_X10_builds) [az_r 34, az_i (zo), az_i (zp), az_i (zq), az_i (zr)]) [] (s) (zMq s (zo_bridge S zo zp zq zr) 2) := by
  have hz := zI_h hI hh
  have hs0 : s 35 0 = ((zn S 0 : Nat) : Int) := by rw [hS, hz.2.1.1]
  have hs1 : s 35 1 = ((zn S 1 : Nat) : Int) := by rw [hS, hz.2.1.2.1]
  have hs2 : s 35 2 = ((zn S 2 : Nat) : Int) := by rw [hS, hz.2.1.2.2]
  have hs3 : s 35 3 = S 3 := by rw [hS]
  have hs5 : s 35 5 = S 5 := by rw [hS]
  refine az_to 0 (pc2 := 0) (lv2 := [some (az_r 34), some (az_i (zo)), some (az_i (zp)), some (az_i (zq)), some (az_i (zr)), none, none]) (st2 := []) (s2 := s) rfl ?_
  refine az_to 2 (pc2 := 2) (lv2 := [some (az_r 34), some (az_i (zo)), some (az_i (zp)), some (az_i (zq)), some (az_i (zr)), none, none]) (st2 := [az_i (zo), az_r 34]) (s2 := s) rfl ?_
  refine az_clv (v := some (az_i (az_b (0 ≤ zo ∧ zo ≤ 5)))) (t := s) (m2 := am_m_X10_isLand) (as := [az_i (zo)]) (rest := [az_r 34]) 5 rfl rfl ⟨rfl, rfl⟩ (by omega) (zs_X10_isLand (s := s) (z := zo) (by omega) (by first | assumption | exact ⟨by omega, by omega⟩)) ?_
  refine az_to 0 (pc2 := 5) (lv2 := [some (az_r 34), some (az_i (zo)), some (az_i (zp)), some (az_i (zq)), some (az_i (zr)), none, none]) (st2 := [az_i (az_b (0 ≤ zo ∧ zo ≤ 5)), az_r 34]) (s2 := s) rfl ?_
  refine az_ifbe 15 8 rfl (by decide) (fun h2 => ?_) (fun h2 => ?_)
  · have h2 : ¬ (0 ≤ zo ∧ zo ≤ 5) := h2
    refine az_to 3 (pc2 := 21) (lv2 := [some (az_r 34), some (az_i (zo)), some (az_i (zp)), some (az_i (zq)), some (az_i (zr)), none, none]) (st2 := [az_i (1), az_i (1), az_r 34]) (s2 := s) rfl ?_
    refine az_clv (v := some (az_i (1))) (t := am_up s 34 6 (1)) (m2 := am_m_X10_isThrown) (as := [az_r 34, az_i (1), az_i (1)]) (rest := []) 24 rfl rfl ⟨rfl, rfl⟩ (by omega) (zs_X10_isThrown_t (s := s) (v := 1) (by omega) ) ?_
    refine az_to 0 (pc2 := 24) (lv2 := [some (az_r 34), some (az_i (zo)), some (az_i (zp)), some (az_i (zq)), some (az_i (zr)), none, none]) (st2 := [az_i (1)]) (s2 := am_up s 34 6 (1)) rfl ?_
    refine az_ifc 61 27 rfl (by decide) ⟨by decide, by decide⟩ (fun _ => ?_) (fun h => absurd (show az_cnd _ _ _ by unfold az_cnd; decide) h)
    refine az_to 1 (pc2 := 62) (lv2 := [some (az_r 34), some (az_i (zo)), some (az_i (zp)), some (az_i (zq)), some (az_i (zr)), none, none]) (st2 := [az_i (0)]) (s2 := am_up s 34 6 (1)) rfl ?_
    refine az_retI rfl rfl ?_
    have e : zo_bridge S zo zp zq zr = (1, 0, 0, S) := by
      simp only [zo_bridge, Int.toNat_natCast]
      first | (rw [if_pos (by omega)]) | (rw [if_neg (by omega), if_pos (by omega)]) | (rw [if_neg (by omega), if_neg (by omega), if_pos (by omega)]) | (rw [if_neg (by omega), if_neg (by omega), if_neg (by omega), if_pos (by omega)]) | (rw [if_neg (by omega), if_neg (by omega), if_neg (by omega), if_neg (by omega), if_pos (by omega)])
    rw [e]
    exact ⟨rfl, hS, rfl, (fun h => absurd (show (1 : Nat) = 3 from h) (by decide)), (fun _ => ⟨rfl, rfl, rfl⟩), (fun j h6 h7 h8 h9 => by simp [am_up, h6, h7, h8, h9]), (fun i h1 h2 => by funext j; simp [am_up, h1, h2])⟩
  · have h2 : 0 ≤ zo ∧ zo ≤ 5 := h2
    refine az_to 1 (pc2 := 9) (lv2 := [some (az_r 34), some (az_i (zo)), some (az_i (zp)), some (az_i (zq)), some (az_i (zr)), none, none]) (st2 := [az_i (zp), az_r 34]) (s2 := s) rfl ?_
    refine az_clv (v := some (az_i (az_b (0 ≤ zp ∧ zp ≤ 5)))) (t := s) (m2 := am_m_X10_isLand) (as := [az_i (zp)]) (rest := [az_r 34]) 12 rfl rfl ⟨rfl, rfl⟩ (by omega) (zs_X10_isLand (s := s) (z := zp) (by omega) (by first | assumption | exact ⟨by omega, by omega⟩)) ?_
    refine az_to 0 (pc2 := 12) (lv2 := [some (az_r 34), some (az_i (zo)), some (az_i (zp)), some (az_i (zq)), some (az_i (zr)), none, none]) (st2 := [az_i (az_b (0 ≤ zp ∧ zp ≤ 5)), az_r 34]) (s2 := s) rfl ?_
    refine az_ifbn 19 15 rfl (by decide) (fun h3 => ?_) (fun h3 => ?_)
    · have h3 : 0 ≤ zp ∧ zp ≤ 5 := h3
      refine az_to 2 (pc2 := 21) (lv2 := [some (az_r 34), some (az_i (zo)), some (az_i (zp)), some (az_i (zq)), some (az_i (zr)), none, none]) (st2 := [az_i (1), az_i (0), az_r 34]) (s2 := s) rfl ?_
      refine az_clv (v := some (az_i (0))) (t := am_up s 34 6 (0)) (m2 := am_m_X10_isThrown) (as := [az_r 34, az_i (0), az_i (1)]) (rest := []) 24 rfl rfl ⟨rfl, rfl⟩ (by omega) (zs_X10_isThrown_f (s := s) (v := 1) (by omega) ) ?_
      refine az_to 0 (pc2 := 24) (lv2 := [some (az_r 34), some (az_i (zo)), some (az_i (zp)), some (az_i (zq)), some (az_i (zr)), none, none]) (st2 := [az_i (0)]) (s2 := am_up s 34 6 (0)) rfl ?_
      refine az_ifc 61 27 rfl (by decide) ⟨by decide, by decide⟩ (fun h => absurd h (by unfold az_cnd; decide)) (fun _ => ?_)
      refine az_to 4 (pc2 := 32) (lv2 := [some (az_r 34), some (az_i (zo)), some (az_i (zp)), some (az_i (zq)), some (az_i (zr)), none, none]) (st2 := [az_i (9), az_i (1), az_i (zq), az_r 34]) (s2 := am_up s 34 6 (0)) rfl ?_
      refine az_clv (v := some (az_i (az_b (1 ≤ zq ∧ zq ≤ 9)))) (t := am_up s 34 6 (0)) (m2 := am_m_X10_isIn) (as := [az_i (zq), az_i (1), az_i (9)]) (rest := [az_r 34]) 35 rfl rfl ⟨rfl, rfl⟩ (by omega) (zs_X10_isIn (s := am_up s 34 6 (0)) (z := zq) (lo := 1) (hi := 9) (by omega) (by first | assumption | exact ⟨by omega, by omega⟩) ⟨by decide, by decide⟩ ⟨by decide, by decide⟩) ?_
      refine az_to 0 (pc2 := 35) (lv2 := [some (az_r 34), some (az_i (zo)), some (az_i (zp)), some (az_i (zq)), some (az_i (zr)), none, none]) (st2 := [az_i (az_b (1 ≤ zq ∧ zq ≤ 9)), az_r 34]) (s2 := am_up s 34 6 (0)) rfl ?_
      refine az_ifbe 49 38 rfl (by decide) (fun h4 => ?_) (fun h4 => ?_)
      · have h4 : ¬ (1 ≤ zq ∧ zq ≤ 9) := h4
        refine az_to 3 (pc2 := 55) (lv2 := [some (az_r 34), some (az_i (zo)), some (az_i (zp)), some (az_i (zq)), some (az_i (zr)), none, none]) (st2 := [az_i (2), az_i (1), az_r 34]) (s2 := am_up s 34 6 (0)) rfl ?_
        refine az_clv (v := some (az_i (1))) (t := am_up (am_up s 34 6 (0)) 34 6 (2)) (m2 := am_m_X10_isThrown) (as := [az_r 34, az_i (1), az_i (2)]) (rest := []) 58 rfl rfl ⟨rfl, rfl⟩ (by omega) (zs_X10_isThrown_t (s := am_up s 34 6 (0)) (v := 2) (by omega) ) ?_
        refine az_to 0 (pc2 := 58) (lv2 := [some (az_r 34), some (az_i (zo)), some (az_i (zp)), some (az_i (zq)), some (az_i (zr)), none, none]) (st2 := [az_i (1)]) (s2 := am_up (am_up s 34 6 (0)) 34 6 (2)) rfl ?_
        refine az_ifc 63 61 rfl (by decide) ⟨by decide, by decide⟩ (fun h => absurd h (by unfold az_cnd; decide)) (fun _ => ?_)
        refine az_to 1 (pc2 := 62) (lv2 := [some (az_r 34), some (az_i (zo)), some (az_i (zp)), some (az_i (zq)), some (az_i (zr)), none, none]) (st2 := [az_i (0)]) (s2 := am_up (am_up s 34 6 (0)) 34 6 (2)) rfl ?_
        refine az_retI rfl rfl ?_
        have e : zo_bridge S zo zp zq zr = (2, 0, 0, S) := by
          simp only [zo_bridge, Int.toNat_natCast]
          first | (rw [if_pos (by omega)]) | (rw [if_neg (by omega), if_pos (by omega)]) | (rw [if_neg (by omega), if_neg (by omega), if_pos (by omega)]) | (rw [if_neg (by omega), if_neg (by omega), if_neg (by omega), if_pos (by omega)]) | (rw [if_neg (by omega), if_neg (by omega), if_neg (by omega), if_neg (by omega), if_pos (by omega)])
        rw [e]
        exact ⟨rfl, hS, rfl, (fun h => absurd (show (2 : Nat) = 3 from h) (by decide)), (fun _ => ⟨rfl, rfl, rfl⟩), (fun j h6 h7 h8 h9 => by simp [am_up, h6, h7, h8, h9]), (fun i h1 h2 => by funext j; simp [am_up, h1, h2])⟩
      · have h4 : 1 ≤ zq ∧ zq ≤ 9 := h4
        refine az_to 3 (pc2 := 43) (lv2 := [some (az_r 34), some (az_i (zo)), some (az_i (zp)), some (az_i (zq)), some (az_i (zr)), none, none]) (st2 := [az_i (9), az_i (0), az_i (zr), az_r 34]) (s2 := am_up s 34 6 (0)) rfl ?_
        refine az_clv (v := some (az_i (az_b (0 ≤ zr ∧ zr ≤ 9)))) (t := am_up s 34 6 (0)) (m2 := am_m_X10_isIn) (as := [az_i (zr), az_i (0), az_i (9)]) (rest := [az_r 34]) 46 rfl rfl ⟨rfl, rfl⟩ (by omega) (zs_X10_isIn (s := am_up s 34 6 (0)) (z := zr) (lo := 0) (hi := 9) (by omega) (by first | assumption | exact ⟨by omega, by omega⟩) ⟨by decide, by decide⟩ ⟨by decide, by decide⟩) ?_
        refine az_to 0 (pc2 := 46) (lv2 := [some (az_r 34), some (az_i (zo)), some (az_i (zp)), some (az_i (zq)), some (az_i (zr)), none, none]) (st2 := [az_i (az_b (0 ≤ zr ∧ zr ≤ 9)), az_r 34]) (s2 := am_up s 34 6 (0)) rfl ?_
        refine az_ifbn 53 49 rfl (by decide) (fun h5 => ?_) (fun h5 => ?_)
        · have h5 : 0 ≤ zr ∧ zr ≤ 9 := h5
          refine az_to 2 (pc2 := 55) (lv2 := [some (az_r 34), some (az_i (zo)), some (az_i (zp)), some (az_i (zq)), some (az_i (zr)), none, none]) (st2 := [az_i (2), az_i (0), az_r 34]) (s2 := am_up s 34 6 (0)) rfl ?_
          refine az_clv (v := some (az_i (0))) (t := am_up (am_up s 34 6 (0)) 34 6 (0)) (m2 := am_m_X10_isThrown) (as := [az_r 34, az_i (0), az_i (2)]) (rest := []) 58 rfl rfl ⟨rfl, rfl⟩ (by omega) (zs_X10_isThrown_f (s := am_up s 34 6 (0)) (v := 2) (by omega) ) ?_
          refine az_to 0 (pc2 := 58) (lv2 := [some (az_r 34), some (az_i (zo)), some (az_i (zp)), some (az_i (zq)), some (az_i (zr)), none, none]) (st2 := [az_i (0)]) (s2 := am_up (am_up s 34 6 (0)) 34 6 (0)) rfl ?_
          refine az_ifc 63 61 rfl (by decide) ⟨by decide, by decide⟩ (fun _ => ?_) (fun h => absurd (show az_cnd _ _ _ by unfold az_cnd; decide) h)
          refine az_to 3 (pc2 := 66) (lv2 := [some (az_r 34), some (az_i (zo)), some (az_i (zp)), some (az_i (zq)), some (az_i (zr)), none, none]) (st2 := [az_i (zp), az_i (zo), az_r 34]) (s2 := am_up (am_up s 34 6 (0)) 34 6 (0)) rfl ?_
          refine az_if2 73 69 rfl (by decide) (by first | assumption | exact ⟨by omega, by omega⟩) (by first | assumption | exact ⟨by omega, by omega⟩) (fun h6 => ?_) (fun h6 => ?_)
          · have h6 : ¬ zo = zp := h6
            refine az_to 3 (pc2 := 76) (lv2 := [some (az_r 34), some (az_i (zo)), some (az_i (zp)), some (az_i (zq)), some (az_i (zr)), none, none]) (st2 := [az_i (zo), az_i (2), az_i (0), az_r 34]) (s2 := am_up (am_up s 34 6 (0)) 34 6 (0)) rfl ?_
            refine az_clv (v := some (az_i (0))) (t := am_up (am_up s 34 6 (0)) 34 6 (0)) (m2 := am_m_X10_isRefused) (as := [az_r 34, az_i (0), az_i (2), az_i (zo)]) (rest := []) 79 rfl rfl ⟨rfl, rfl⟩ (by omega) (zs_X10_isRefused_f (s := am_up (am_up s 34 6 (0)) 34 6 (0)) (v := 2) (w := zo) (by omega) ) ?_
            refine az_to 0 (pc2 := 79) (lv2 := [some (az_r 34), some (az_i (zo)), some (az_i (zp)), some (az_i (zq)), some (az_i (zr)), none, none]) (st2 := [az_i (0)]) (s2 := am_up (am_up s 34 6 (0)) 34 6 (0)) rfl ?_
            refine az_ifc 108 82 rfl (by decide) ⟨by decide, by decide⟩ (fun h => absurd h (by unfold az_cnd; decide)) (fun _ => ?_)
            refine az_to 4 (pc2 := 88) (lv2 := [some (az_r 34), some (az_i (zo)), some (az_i (zp)), some (az_i (zq)), some (az_i (zr)), none, none]) (st2 := [az_i (0), az_r 35, az_r 34]) (s2 := am_up (am_up s 34 6 (0)) 34 6 (0)) rfl ?_
            refine az_ld_i 89 rfl rfl (by constructor <;> omega) ⟨by decide, rfl⟩ ?_
            refine az_to 0 (pc2 := 89) (lv2 := [some (az_r 34), some (az_i (zo)), some (az_i (zp)), some (az_i (zq)), some (az_i (zr)), none, none]) (st2 := [az_i ((am_up (am_up s 34 6 (0)) 34 6 (0)) 35 0), az_r 34]) (s2 := am_up (am_up s 34 6 (0)) 34 6 (0)) rfl ?_
            refine az_to 0 (pc2 := 89) (lv2 := [some (az_r 34), some (az_i (zo)), some (az_i (zp)), some (az_i (zq)), some (az_i (zr)), none, none]) (st2 := [az_i (((zn S 0 : Nat) : Int)), az_r 34]) (s2 := am_up (am_up s 34 6 (0)) 34 6 (0)) (by rw [show (am_up (am_up s 34 6 (0)) 34 6 (0)) 35 0 = ((zn S 0 : Nat) : Int) from hs0]; rfl) ?_
            refine az_to 1 (pc2 := 91) (lv2 := [some (az_r 34), some (az_i (zo)), some (az_i (zp)), some (az_i (zq)), some (az_i (zr)), none, none]) (st2 := [az_i (10), az_i (((zn S 0 : Nat) : Int)), az_r 34]) (s2 := am_up (am_up s 34 6 (0)) 34 6 (0)) rfl ?_
            refine az_if2 98 94 rfl (by decide) (by first | assumption | exact ⟨by omega, by omega⟩) ⟨by decide, by decide⟩ (fun h7 => ?_) (fun h7 => ?_)
            · have h7 : ¬ ((zn S 0 : Nat) : Int) = 10 := h7
              refine az_to 3 (pc2 := 102) (lv2 := [some (az_r 34), some (az_i (zo)), some (az_i (zp)), some (az_i (zq)), some (az_i (zr)), none, none]) (st2 := [az_i (10), az_i (1), az_i (0), az_r 34]) (s2 := am_up (am_up s 34 6 (0)) 34 6 (0)) rfl ?_
              refine az_clv (v := some (az_i (0))) (t := am_up (am_up s 34 6 (0)) 34 6 (0)) (m2 := am_m_X10_isRefused) (as := [az_r 34, az_i (0), az_i (1), az_i (10)]) (rest := []) 105 rfl rfl ⟨rfl, rfl⟩ (by omega) (zs_X10_isRefused_f (s := am_up (am_up s 34 6 (0)) 34 6 (0)) (v := 1) (w := 10) (by omega) ) ?_
              refine az_to 0 (pc2 := 105) (lv2 := [some (az_r 34), some (az_i (zo)), some (az_i (zp)), some (az_i (zq)), some (az_i (zr)), none, none]) (st2 := [az_i (0)]) (s2 := am_up (am_up s 34 6 (0)) 34 6 (0)) rfl ?_
              refine az_ifc 110 108 rfl (by decide) ⟨by decide, by decide⟩ (fun _ => ?_) (fun h => absurd (show az_cnd _ _ _ by unfold az_cnd; decide) h)
              refine az_to 3 (pc2 := 115) (lv2 := [some (az_r 34), some (az_i (zo)), some (az_i (zp)), some (az_i (zq)), some (az_i (zr)), none, none]) (st2 := [az_i (0), az_r 35]) (s2 := am_up (am_up s 34 6 (0)) 34 6 (0)) rfl ?_
              refine az_ld_i 116 rfl rfl (by constructor <;> omega) ⟨by decide, rfl⟩ ?_
              refine az_to 0 (pc2 := 116) (lv2 := [some (az_r 34), some (az_i (zo)), some (az_i (zp)), some (az_i (zq)), some (az_i (zr)), none, none]) (st2 := [az_i ((am_up (am_up s 34 6 (0)) 34 6 (0)) 35 0)]) (s2 := am_up (am_up s 34 6 (0)) 34 6 (0)) rfl ?_
              refine az_to 0 (pc2 := 116) (lv2 := [some (az_r 34), some (az_i (zo)), some (az_i (zp)), some (az_i (zq)), some (az_i (zr)), none, none]) (st2 := [az_i (((zn S 0 : Nat) : Int))]) (s2 := am_up (am_up s 34 6 (0)) 34 6 (0)) (by rw [show (am_up (am_up s 34 6 (0)) 34 6 (0)) 35 0 = ((zn S 0 : Nat) : Int) from hs0]; rfl) ?_
              refine az_to 3 (pc2 := 121) (lv2 := [some (az_r 34), some (az_i (zo)), some (az_i (zp)), some (az_i (zq)), some (az_i (zr)), some (az_i (((zn S 0 : Nat) : Int))), some (az_i (0))]) (st2 := []) (s2 := am_up (am_up s 34 6 (0)) 34 6 (0)) rfl ?_
              exact zs_X10_builds_L121 (by omega) hS hI hh h_zo h_zp h_zq h_zr _ 0 _ rfl (by omega) (by rw [zzk_0]; exact hS) rfl (fun j h6 => by simp [am_up, h6]) (fun i h1 h2 => by funext j; simp [am_up, h1]) ⟨by omega, by omega, by omega, by omega⟩
            · have h7 : ((zn S 0 : Nat) : Int) = 10 := Decidable.not_not.mp h7
              refine az_to 4 (pc2 := 102) (lv2 := [some (az_r 34), some (az_i (zo)), some (az_i (zp)), some (az_i (zq)), some (az_i (zr)), none, none]) (st2 := [az_i (10), az_i (1), az_i (1), az_r 34]) (s2 := am_up (am_up s 34 6 (0)) 34 6 (0)) rfl ?_
              refine az_clv (v := some (az_i (1))) (t := am_up (am_up (am_up (am_up (am_up (am_up s 34 6 (0)) 34 6 (0)) 34 7 (1)) 34 8 (10)) 34 9 (0)) 34 6 (9)) (m2 := am_m_X10_isRefused) (as := [az_r 34, az_i (1), az_i (1), az_i (10)]) (rest := []) 105 rfl rfl ⟨rfl, rfl⟩ (by omega) (zs_X10_isRefused_t (s := am_up (am_up s 34 6 (0)) 34 6 (0)) (v := 1) (w := 10) (by omega) ) ?_
              refine az_to 0 (pc2 := 105) (lv2 := [some (az_r 34), some (az_i (zo)), some (az_i (zp)), some (az_i (zq)), some (az_i (zr)), none, none]) (st2 := [az_i (1)]) (s2 := am_up (am_up (am_up (am_up (am_up (am_up s 34 6 (0)) 34 6 (0)) 34 7 (1)) 34 8 (10)) 34 9 (0)) 34 6 (9)) rfl ?_
              refine az_ifc 110 108 rfl (by decide) ⟨by decide, by decide⟩ (fun h => absurd h (by unfold az_cnd; decide)) (fun _ => ?_)
              refine az_to 1 (pc2 := 109) (lv2 := [some (az_r 34), some (az_i (zo)), some (az_i (zp)), some (az_i (zq)), some (az_i (zr)), none, none]) (st2 := [az_i (0)]) (s2 := am_up (am_up (am_up (am_up (am_up (am_up s 34 6 (0)) 34 6 (0)) 34 7 (1)) 34 8 (10)) 34 9 (0)) 34 6 (9)) rfl ?_
              refine az_retI rfl rfl ?_
              have e : zo_bridge S zo zp zq zr = (3, 1, 10, S) := by
                simp only [zo_bridge, Int.toNat_natCast]
                first | (rw [if_pos (by omega)]) | (rw [if_neg (by omega), if_pos (by omega)]) | (rw [if_neg (by omega), if_neg (by omega), if_pos (by omega)]) | (rw [if_neg (by omega), if_neg (by omega), if_neg (by omega), if_pos (by omega)]) | (rw [if_neg (by omega), if_neg (by omega), if_neg (by omega), if_neg (by omega), if_pos (by omega)])
              rw [e]
              exact ⟨rfl, hS, rfl, (fun _ => ⟨rfl, rfl, rfl⟩), (fun h => absurd rfl h), (fun j h6 h7 h8 h9 => by simp [am_up, h6, h7, h8, h9]), (fun i h1 h2 => by funext j; simp [am_up, h1, h2])⟩
          · have h6 : zo = zp := Decidable.not_not.mp h6
            refine az_to 4 (pc2 := 76) (lv2 := [some (az_r 34), some (az_i (zo)), some (az_i (zp)), some (az_i (zq)), some (az_i (zr)), none, none]) (st2 := [az_i (zo), az_i (2), az_i (1), az_r 34]) (s2 := am_up (am_up s 34 6 (0)) 34 6 (0)) rfl ?_
            refine az_clv (v := some (az_i (1))) (t := am_up (am_up (am_up (am_up (am_up (am_up s 34 6 (0)) 34 6 (0)) 34 7 (2)) 34 8 (zo)) 34 9 (0)) 34 6 (9)) (m2 := am_m_X10_isRefused) (as := [az_r 34, az_i (1), az_i (2), az_i (zo)]) (rest := []) 79 rfl rfl ⟨rfl, rfl⟩ (by omega) (zs_X10_isRefused_t (s := am_up (am_up s 34 6 (0)) 34 6 (0)) (v := 2) (w := zo) (by omega) ) ?_
            refine az_to 0 (pc2 := 79) (lv2 := [some (az_r 34), some (az_i (zo)), some (az_i (zp)), some (az_i (zq)), some (az_i (zr)), none, none]) (st2 := [az_i (1)]) (s2 := am_up (am_up (am_up (am_up (am_up (am_up s 34 6 (0)) 34 6 (0)) 34 7 (2)) 34 8 (zo)) 34 9 (0)) 34 6 (9)) rfl ?_
            refine az_ifc 108 82 rfl (by decide) ⟨by decide, by decide⟩ (fun _ => ?_) (fun h => absurd (show az_cnd _ _ _ by unfold az_cnd; decide) h)
            refine az_to 1 (pc2 := 109) (lv2 := [some (az_r 34), some (az_i (zo)), some (az_i (zp)), some (az_i (zq)), some (az_i (zr)), none, none]) (st2 := [az_i (0)]) (s2 := am_up (am_up (am_up (am_up (am_up (am_up s 34 6 (0)) 34 6 (0)) 34 7 (2)) 34 8 (zo)) 34 9 (0)) 34 6 (9)) rfl ?_
            refine az_retI rfl rfl ?_
            have e : zo_bridge S zo zp zq zr = (3, 2, zo, S) := by
              simp only [zo_bridge, Int.toNat_natCast]
              first | (rw [if_pos (by omega)]) | (rw [if_neg (by omega), if_pos (by omega)]) | (rw [if_neg (by omega), if_neg (by omega), if_pos (by omega)]) | (rw [if_neg (by omega), if_neg (by omega), if_neg (by omega), if_pos (by omega)]) | (rw [if_neg (by omega), if_neg (by omega), if_neg (by omega), if_neg (by omega), if_pos (by omega)])
            rw [e]
            exact ⟨rfl, hS, rfl, (fun _ => ⟨rfl, rfl, rfl⟩), (fun h => absurd rfl h), (fun j h6 h7 h8 h9 => by simp [am_up, h6, h7, h8, h9]), (fun i h1 h2 => by funext j; simp [am_up, h1, h2])⟩
        · have h5 : ¬ (0 ≤ zr ∧ zr ≤ 9) := h5
          refine az_to 3 (pc2 := 55) (lv2 := [some (az_r 34), some (az_i (zo)), some (az_i (zp)), some (az_i (zq)), some (az_i (zr)), none, none]) (st2 := [az_i (2), az_i (1), az_r 34]) (s2 := am_up s 34 6 (0)) rfl ?_
          refine az_clv (v := some (az_i (1))) (t := am_up (am_up s 34 6 (0)) 34 6 (2)) (m2 := am_m_X10_isThrown) (as := [az_r 34, az_i (1), az_i (2)]) (rest := []) 58 rfl rfl ⟨rfl, rfl⟩ (by omega) (zs_X10_isThrown_t (s := am_up s 34 6 (0)) (v := 2) (by omega) ) ?_
          refine az_to 0 (pc2 := 58) (lv2 := [some (az_r 34), some (az_i (zo)), some (az_i (zp)), some (az_i (zq)), some (az_i (zr)), none, none]) (st2 := [az_i (1)]) (s2 := am_up (am_up s 34 6 (0)) 34 6 (2)) rfl ?_
          refine az_ifc 63 61 rfl (by decide) ⟨by decide, by decide⟩ (fun h => absurd h (by unfold az_cnd; decide)) (fun _ => ?_)
          refine az_to 1 (pc2 := 62) (lv2 := [some (az_r 34), some (az_i (zo)), some (az_i (zp)), some (az_i (zq)), some (az_i (zr)), none, none]) (st2 := [az_i (0)]) (s2 := am_up (am_up s 34 6 (0)) 34 6 (2)) rfl ?_
          refine az_retI rfl rfl ?_
          have e : zo_bridge S zo zp zq zr = (2, 0, 0, S) := by
            simp only [zo_bridge, Int.toNat_natCast]
            first | (rw [if_pos (by omega)]) | (rw [if_neg (by omega), if_pos (by omega)]) | (rw [if_neg (by omega), if_neg (by omega), if_pos (by omega)]) | (rw [if_neg (by omega), if_neg (by omega), if_neg (by omega), if_pos (by omega)]) | (rw [if_neg (by omega), if_neg (by omega), if_neg (by omega), if_neg (by omega), if_pos (by omega)])
          rw [e]
          exact ⟨rfl, hS, rfl, (fun h => absurd (show (2 : Nat) = 3 from h) (by decide)), (fun _ => ⟨rfl, rfl, rfl⟩), (fun j h6 h7 h8 h9 => by simp [am_up, h6, h7, h8, h9]), (fun i h1 h2 => by funext j; simp [am_up, h1, h2])⟩
    · have h3 : ¬ (0 ≤ zp ∧ zp ≤ 5) := h3
      refine az_to 3 (pc2 := 21) (lv2 := [some (az_r 34), some (az_i (zo)), some (az_i (zp)), some (az_i (zq)), some (az_i (zr)), none, none]) (st2 := [az_i (1), az_i (1), az_r 34]) (s2 := s) rfl ?_
      refine az_clv (v := some (az_i (1))) (t := am_up s 34 6 (1)) (m2 := am_m_X10_isThrown) (as := [az_r 34, az_i (1), az_i (1)]) (rest := []) 24 rfl rfl ⟨rfl, rfl⟩ (by omega) (zs_X10_isThrown_t (s := s) (v := 1) (by omega) ) ?_
      refine az_to 0 (pc2 := 24) (lv2 := [some (az_r 34), some (az_i (zo)), some (az_i (zp)), some (az_i (zq)), some (az_i (zr)), none, none]) (st2 := [az_i (1)]) (s2 := am_up s 34 6 (1)) rfl ?_
      refine az_ifc 61 27 rfl (by decide) ⟨by decide, by decide⟩ (fun _ => ?_) (fun h => absurd (show az_cnd _ _ _ by unfold az_cnd; decide) h)
      refine az_to 1 (pc2 := 62) (lv2 := [some (az_r 34), some (az_i (zo)), some (az_i (zp)), some (az_i (zq)), some (az_i (zr)), none, none]) (st2 := [az_i (0)]) (s2 := am_up s 34 6 (1)) rfl ?_
      refine az_retI rfl rfl ?_
      have e : zo_bridge S zo zp zq zr = (1, 0, 0, S) := by
        simp only [zo_bridge, Int.toNat_natCast]
        first | (rw [if_pos (by omega)]) | (rw [if_neg (by omega), if_pos (by omega)]) | (rw [if_neg (by omega), if_neg (by omega), if_pos (by omega)]) | (rw [if_neg (by omega), if_neg (by omega), if_neg (by omega), if_pos (by omega)]) | (rw [if_neg (by omega), if_neg (by omega), if_neg (by omega), if_neg (by omega), if_pos (by omega)])
      rw [e]
      exact ⟨rfl, hS, rfl, (fun h => absurd (show (1 : Nat) = 3 from h) (by decide)), (fun _ => ⟨rfl, rfl, rfl⟩), (fun j h6 h7 h8 h9 => by simp [am_up, h6, h7, h8, h9]), (fun i h1 h2 => by funext j; simp [am_up, h1, h2])⟩
set_option maxRecDepth 100000 in
set_option maxHeartbeats 800000 in
theorem zs_X10_trolls {d : Nat} {s : az_S} (hd : 3 ≤ d) {S : zR} {h : Nat} (hS : s 35 = S) (hI : zInv S h) (hh : h ≤ 10000)   (h0 : s 34 6 = 0) : az_R d am_m_X10_trolls 0 (az_ini (am_mL am_m_X10_trolls) [az_r 34]) [] (s) (zMq s (zo_troll S ) 2) := by
  have hz := zI_h hI hh
  have hs0 : s 35 0 = ((zn S 0 : Nat) : Int) := by rw [hS, hz.2.1.1]
  have hs1 : s 35 1 = ((zn S 1 : Nat) : Int) := by rw [hS, hz.2.1.2.1]
  have hs2 : s 35 2 = ((zn S 2 : Nat) : Int) := by rw [hS, hz.2.1.2.2]
  have hs3 : s 35 3 = S 3 := by rw [hS]
  have hs5 : s 35 5 = S 5 := by rw [hS]
  refine az_to 0 (pc2 := 0) (lv2 := [some (az_r 34)]) (st2 := []) (s2 := s) rfl ?_
  refine az_to 4 (pc2 := 6) (lv2 := [some (az_r 34)]) (st2 := [az_i (1), az_r 35, az_r 34]) (s2 := s) rfl ?_
  refine az_ld_i 7 rfl rfl (by constructor <;> omega) ⟨by decide, rfl⟩ ?_
  refine az_to 0 (pc2 := 7) (lv2 := [some (az_r 34)]) (st2 := [az_i (s 35 1), az_r 34]) (s2 := s) rfl ?_
  refine az_to 0 (pc2 := 7) (lv2 := [some (az_r 34)]) (st2 := [az_i (((zn S 1 : Nat) : Int)), az_r 34]) (s2 := s) (by rw [show s 35 1 = ((zn S 1 : Nat) : Int) from hs1]; rfl) ?_
  refine az_to 1 (pc2 := 9) (lv2 := [some (az_r 34)]) (st2 := [az_i (6), az_i (((zn S 1 : Nat) : Int)), az_r 34]) (s2 := s) rfl ?_
  refine az_if2 16 12 rfl (by decide) (by first | assumption | exact ⟨by omega, by omega⟩) ⟨by decide, by decide⟩ (fun h1 => ?_) (fun h1 => ?_)
  · have h1 : ¬ ((zn S 1 : Nat) : Int) = 6 := h1
    refine az_to 3 (pc2 := 20) (lv2 := [some (az_r 34)]) (st2 := [az_i (6), az_i (1), az_i (0), az_r 34]) (s2 := s) rfl ?_
    refine az_clv (v := some (az_i (0))) (t := s) (m2 := am_m_X10_isRefused) (as := [az_r 34, az_i (0), az_i (1), az_i (6)]) (rest := []) 23 rfl rfl ⟨rfl, rfl⟩ (by omega) (zs_X10_isRefused_f (s := s) (v := 1) (w := 6) (by omega) ) ?_
    refine az_to 0 (pc2 := 23) (lv2 := [some (az_r 34)]) (st2 := [az_i (0)]) (s2 := s) rfl ?_
    refine az_ifc 28 26 rfl (by decide) ⟨by decide, by decide⟩ (fun _ => ?_) (fun h => absurd (show az_cnd _ _ _ by unfold az_cnd; decide) h)
    refine az_to 4 (pc2 := 34) (lv2 := [some (az_r 34)]) (st2 := [az_i (1), az_r 35, az_r 34]) (s2 := s) rfl ?_
    refine az_ld_i 35 rfl rfl (by constructor <;> omega) ⟨by decide, rfl⟩ ?_
    refine az_to 0 (pc2 := 35) (lv2 := [some (az_r 34)]) (st2 := [az_i (s 35 1), az_r 34]) (s2 := s) rfl ?_
    refine az_to 0 (pc2 := 35) (lv2 := [some (az_r 34)]) (st2 := [az_i (((zn S 1 : Nat) : Int)), az_r 34]) (s2 := s) (by rw [show s 35 1 = ((zn S 1 : Nat) : Int) from hs1]; rfl) ?_
    refine az_to 2 (pc2 := 37) (lv2 := [some (az_r 34)]) (st2 := [az_i (-1), az_i (0), az_i (((zn S 1 : Nat) : Int)), az_r 34]) (s2 := s) rfl ?_
    refine az_clv (v := none) (t := am_up s 35 (126 + 4 * (zn S 1) + 0) ((-1))) (m2 := am_m_X10_setsTroll) (as := [az_r 34, az_i (((zn S 1 : Nat) : Int)), az_i (0), az_i (-1)]) (rest := []) 40 rfl rfl ⟨rfl, rfl⟩ (by omega) (zs_X10_setsTroll (s := s) (t := (zn S 1)) (k := 0) (v := (-1)) (by omega) (by omega) (by omega)) ?_
    refine az_to 0 (pc2 := 40) (lv2 := [some (az_r 34)]) (st2 := []) (s2 := am_up s 35 (126 + 4 * (zn S 1) + 0) ((-1))) rfl ?_
    refine az_to 4 (pc2 := 46) (lv2 := [some (az_r 34)]) (st2 := [az_i (1), az_r 35, az_i (1), az_r 35]) (s2 := am_up s 35 (126 + 4 * (zn S 1) + 0) ((-1))) rfl ?_
    refine az_ld_i 47 rfl rfl (by constructor <;> omega) ⟨by decide, rfl⟩ ?_
    refine az_to 0 (pc2 := 47) (lv2 := [some (az_r 34)]) (st2 := [az_i ((am_up s 35 (126 + 4 * (zn S 1) + 0) ((-1))) 35 1), az_i (1), az_r 35]) (s2 := am_up s 35 (126 + 4 * (zn S 1) + 0) ((-1))) rfl ?_
    refine az_to 0 (pc2 := 47) (lv2 := [some (az_r 34)]) (st2 := [az_i (S 1), az_i (1), az_r 35]) (s2 := am_up s 35 (126 + 4 * (zn S 1) + 0) ((-1))) (by rw [show (am_up s 35 (126 + 4 * (zn S 1) + 0) ((-1))) 35 1 = S 1 from (by show (zup (s 35) (126 + 4 * (zn S 1) + 0) (-1)) 1 = S 1; rw [zup_ne _ _ (by omega), hS])]; rfl) ?_
    refine az_to 2 (pc2 := 49) (lv2 := [some (az_r 34)]) (st2 := [az_i ((S 1 + 1)), az_i (1), az_r 35]) (s2 := am_up s 35 (126 + 4 * (zn S 1) + 0) ((-1))) rfl ?_
    refine az_st_i 50 rfl rfl (by constructor <;> omega) ⟨by decide, rfl⟩ ?_
    refine az_to 3 (pc2 := 55) (lv2 := [some (az_r 34)]) (st2 := [az_i (1), az_r 35]) (s2 := am_up (am_up s 35 (126 + 4 * (zn S 1) + 0) ((-1))) 35 1 ((S 1 + 1))) rfl ?_
    refine az_ld_i 56 rfl rfl (by constructor <;> omega) ⟨by decide, rfl⟩ ?_
    refine az_to 0 (pc2 := 56) (lv2 := [some (az_r 34)]) (st2 := [az_i ((am_up (am_up s 35 (126 + 4 * (zn S 1) + 0) ((-1))) 35 1 ((S 1 + 1))) 35 1)]) (s2 := am_up (am_up s 35 (126 + 4 * (zn S 1) + 0) ((-1))) 35 1 ((S 1 + 1))) rfl ?_
    refine az_to 0 (pc2 := 56) (lv2 := [some (az_r 34)]) (st2 := [az_i (S 1 + 1)]) (s2 := am_up (am_up s 35 (126 + 4 * (zn S 1) + 0) ((-1))) 35 1 ((S 1 + 1))) (by rw [show (am_up (am_up s 35 (126 + 4 * (zn S 1) + 0) ((-1))) 35 1 ((S 1 + 1))) 35 1 = S 1 + 1 from (by show (zup (zup (s 35) (126 + 4 * (zn S 1) + 0) (-1)) (1) (S 1 + 1)) 1 = S 1 + 1; rw [zup_eq])]; rfl) ?_
    refine az_to 2 (pc2 := 58) (lv2 := [some (az_r 34)]) (st2 := [az_i ((S 1 + 1 - 1))]) (s2 := am_up (am_up s 35 (126 + 4 * (zn S 1) + 0) ((-1))) 35 1 ((S 1 + 1))) rfl ?_
    refine az_retI rfl rfl ?_
    have e : zo_troll S  = (0, (S 1 + 1 - 1), 0, zup (zup S (126 + 4 * zn S 1 + 0) (-1)) 1 (S 1 + 1)) := by
      simp only [zo_troll, Int.toNat_natCast]
      rw [if_neg (by omega)]
      rw [Int.add_sub_cancel, hz.2.1.2.1]
    rw [e]
    exact ⟨rfl, (by rw [← hS]; rfl), h0, (fun h => absurd (show (0 : Nat) = 3 from h) (by decide)), (fun _ => ⟨rfl, rfl, rfl⟩), (fun j h6 h7 h8 h9 => by simp [am_up, h6, h7, h8, h9]), (fun i h1 h2 => by funext j; simp [am_up, h1, h2])⟩
  · have h1 : ((zn S 1 : Nat) : Int) = 6 := Decidable.not_not.mp h1
    refine az_to 4 (pc2 := 20) (lv2 := [some (az_r 34)]) (st2 := [az_i (6), az_i (1), az_i (1), az_r 34]) (s2 := s) rfl ?_
    refine az_clv (v := some (az_i (1))) (t := am_up (am_up (am_up (am_up s 34 7 (1)) 34 8 (6)) 34 9 (0)) 34 6 (9)) (m2 := am_m_X10_isRefused) (as := [az_r 34, az_i (1), az_i (1), az_i (6)]) (rest := []) 23 rfl rfl ⟨rfl, rfl⟩ (by omega) (zs_X10_isRefused_t (s := s) (v := 1) (w := 6) (by omega) ) ?_
    refine az_to 0 (pc2 := 23) (lv2 := [some (az_r 34)]) (st2 := [az_i (1)]) (s2 := am_up (am_up (am_up (am_up s 34 7 (1)) 34 8 (6)) 34 9 (0)) 34 6 (9)) rfl ?_
    refine az_ifc 28 26 rfl (by decide) ⟨by decide, by decide⟩ (fun h => absurd h (by unfold az_cnd; decide)) (fun _ => ?_)
    refine az_to 1 (pc2 := 27) (lv2 := [some (az_r 34)]) (st2 := [az_i (0)]) (s2 := am_up (am_up (am_up (am_up s 34 7 (1)) 34 8 (6)) 34 9 (0)) 34 6 (9)) rfl ?_
    refine az_retI rfl rfl ?_
    have e : zo_troll S  = (3, 1, 6, S) := by
      simp only [zo_troll, Int.toNat_natCast]
      first | (rw [if_pos (by omega)]) | (rw [if_neg (by omega), if_pos (by omega)]) | (rw [if_neg (by omega), if_neg (by omega), if_pos (by omega)]) | (rw [if_neg (by omega), if_neg (by omega), if_neg (by omega), if_pos (by omega)]) | (rw [if_neg (by omega), if_neg (by omega), if_neg (by omega), if_neg (by omega), if_pos (by omega)])
    rw [e]
    exact ⟨rfl, hS, rfl, (fun _ => ⟨rfl, rfl, rfl⟩), (fun h => absurd rfl h), (fun j h6 h7 h8 h9 => by simp [am_up, h6, h7, h8, h9]), (fun i h1 h2 => by funext j; simp [am_up, h1, h2])⟩
set_option maxRecDepth 100000 in
set_option maxHeartbeats 800000 in
theorem zs_X10_goats {d : Nat} {s : az_S} (hd : 3 ≤ d) {S : zR} {h : Nat} (hS : s 35 = S) (hI : zInv S h) (hh : h ≤ 10000) {zl : Int} {zc : Int} (h_zl : az_in zl) (h_zc : az_in zc) : az_R d am_m_X10_goats 0 (az_ini (am_mL am_m_X10_goats) [az_r 34, az_i (zl), az_i (zc)]) [] (s) (zMq s (zo_goat S zl zc) 2) := by
  have hz := zI_h hI hh
  have hs0 : s 35 0 = ((zn S 0 : Nat) : Int) := by rw [hS, hz.2.1.1]
  have hs1 : s 35 1 = ((zn S 1 : Nat) : Int) := by rw [hS, hz.2.1.2.1]
  have hs2 : s 35 2 = ((zn S 2 : Nat) : Int) := by rw [hS, hz.2.1.2.2]
  have hs3 : s 35 3 = S 3 := by rw [hS]
  have hs5 : s 35 5 = S 5 := by rw [hS]
  refine az_to 0 (pc2 := 0) (lv2 := [some (az_r 34), some (az_i (zl)), some (az_i (zc)), none]) (st2 := []) (s2 := s) rfl ?_
  refine az_to 2 (pc2 := 2) (lv2 := [some (az_r 34), some (az_i (zl)), some (az_i (zc)), none]) (st2 := [az_i (zl), az_r 34]) (s2 := s) rfl ?_
  refine az_clv (v := some (az_i (az_b (0 ≤ zl ∧ zl ≤ 5)))) (t := s) (m2 := am_m_X10_isLand) (as := [az_i (zl)]) (rest := [az_r 34]) 5 rfl rfl ⟨rfl, rfl⟩ (by omega) (zs_X10_isLand (s := s) (z := zl) (by omega) (by first | assumption | exact ⟨by omega, by omega⟩)) ?_
  refine az_to 0 (pc2 := 5) (lv2 := [some (az_r 34), some (az_i (zl)), some (az_i (zc)), none]) (st2 := [az_i (az_b (0 ≤ zl ∧ zl ≤ 5)), az_r 34]) (s2 := s) rfl ?_
  refine az_ifbn 12 8 rfl (by decide) (fun h1 => ?_) (fun h1 => ?_)
  · have h1 : 0 ≤ zl ∧ zl ≤ 5 := h1
    refine az_to 2 (pc2 := 14) (lv2 := [some (az_r 34), some (az_i (zl)), some (az_i (zc)), none]) (st2 := [az_i (1), az_i (0), az_r 34]) (s2 := s) rfl ?_
    refine az_clv (v := some (az_i (0))) (t := am_up s 34 6 (0)) (m2 := am_m_X10_isThrown) (as := [az_r 34, az_i (0), az_i (1)]) (rest := []) 17 rfl rfl ⟨rfl, rfl⟩ (by omega) (zs_X10_isThrown_f (s := s) (v := 1) (by omega) ) ?_
    refine az_to 0 (pc2 := 17) (lv2 := [some (az_r 34), some (az_i (zl)), some (az_i (zc)), none]) (st2 := [az_i (0)]) (s2 := am_up s 34 6 (0)) rfl ?_
    refine az_ifc 67 20 rfl (by decide) ⟨by decide, by decide⟩ (fun h => absurd h (by unfold az_cnd; decide)) (fun _ => ?_)
    refine az_to 4 (pc2 := 25) (lv2 := [some (az_r 34), some (az_i (zl)), some (az_i (zc)), none]) (st2 := [az_i (99), az_i (0), az_i (zc), az_r 34]) (s2 := am_up s 34 6 (0)) rfl ?_
    refine az_clv (v := some (az_i (az_b (0 ≤ zc ∧ zc ≤ 99)))) (t := am_up s 34 6 (0)) (m2 := am_m_X10_isIn) (as := [az_i (zc), az_i (0), az_i (99)]) (rest := [az_r 34]) 28 rfl rfl ⟨rfl, rfl⟩ (by omega) (zs_X10_isIn (s := am_up s 34 6 (0)) (z := zc) (lo := 0) (hi := 99) (by omega) (by first | assumption | exact ⟨by omega, by omega⟩) ⟨by decide, by decide⟩ ⟨by decide, by decide⟩) ?_
    refine az_to 0 (pc2 := 28) (lv2 := [some (az_r 34), some (az_i (zl)), some (az_i (zc)), none]) (st2 := [az_i (az_b (0 ≤ zc ∧ zc ≤ 99)), az_r 34]) (s2 := am_up s 34 6 (0)) rfl ?_
    refine az_ifbn 35 31 rfl (by decide) (fun h2 => ?_) (fun h2 => ?_)
    · have h2 : 0 ≤ zc ∧ zc ≤ 99 := h2
      refine az_to 2 (pc2 := 37) (lv2 := [some (az_r 34), some (az_i (zl)), some (az_i (zc)), none]) (st2 := [az_i (2), az_i (0), az_r 34]) (s2 := am_up s 34 6 (0)) rfl ?_
      refine az_clv (v := some (az_i (0))) (t := am_up (am_up s 34 6 (0)) 34 6 (0)) (m2 := am_m_X10_isThrown) (as := [az_r 34, az_i (0), az_i (2)]) (rest := []) 40 rfl rfl ⟨rfl, rfl⟩ (by omega) (zs_X10_isThrown_f (s := am_up s 34 6 (0)) (v := 2) (by omega) ) ?_
      refine az_to 0 (pc2 := 40) (lv2 := [some (az_r 34), some (az_i (zl)), some (az_i (zc)), none]) (st2 := [az_i (0)]) (s2 := am_up (am_up s 34 6 (0)) 34 6 (0)) rfl ?_
      refine az_ifc 67 43 rfl (by decide) ⟨by decide, by decide⟩ (fun h => absurd h (by unfold az_cnd; decide)) (fun _ => ?_)
      refine az_to 4 (pc2 := 49) (lv2 := [some (az_r 34), some (az_i (zl)), some (az_i (zc)), none]) (st2 := [az_i (2), az_r 35, az_r 34]) (s2 := am_up (am_up s 34 6 (0)) 34 6 (0)) rfl ?_
      refine az_ld_i 50 rfl rfl (by constructor <;> omega) ⟨by decide, rfl⟩ ?_
      refine az_to 0 (pc2 := 50) (lv2 := [some (az_r 34), some (az_i (zl)), some (az_i (zc)), none]) (st2 := [az_i ((am_up (am_up s 34 6 (0)) 34 6 (0)) 35 2), az_r 34]) (s2 := am_up (am_up s 34 6 (0)) 34 6 (0)) rfl ?_
      refine az_to 0 (pc2 := 50) (lv2 := [some (az_r 34), some (az_i (zl)), some (az_i (zc)), none]) (st2 := [az_i (((zn S 2 : Nat) : Int)), az_r 34]) (s2 := am_up (am_up s 34 6 (0)) 34 6 (0)) (by rw [show (am_up (am_up s 34 6 (0)) 34 6 (0)) 35 2 = ((zn S 2 : Nat) : Int) from hs2]; rfl) ?_
      refine az_to 1 (pc2 := 51) (lv2 := [some (az_r 34), some (az_i (zl)), some (az_i (zc)), none]) (st2 := [az_i (5), az_i (((zn S 2 : Nat) : Int)), az_r 34]) (s2 := am_up (am_up s 34 6 (0)) 34 6 (0)) rfl ?_
      refine az_if2 58 54 rfl (by decide) (by first | assumption | exact ⟨by omega, by omega⟩) ⟨by decide, by decide⟩ (fun h3 => ?_) (fun h3 => ?_)
      · have h3 : ¬ ((zn S 2 : Nat) : Int) = 5 := h3
        refine az_to 3 (pc2 := 61) (lv2 := [some (az_r 34), some (az_i (zl)), some (az_i (zc)), none]) (st2 := [az_i (5), az_i (1), az_i (0), az_r 34]) (s2 := am_up (am_up s 34 6 (0)) 34 6 (0)) rfl ?_
        refine az_clv (v := some (az_i (0))) (t := am_up (am_up s 34 6 (0)) 34 6 (0)) (m2 := am_m_X10_isRefused) (as := [az_r 34, az_i (0), az_i (1), az_i (5)]) (rest := []) 64 rfl rfl ⟨rfl, rfl⟩ (by omega) (zs_X10_isRefused_f (s := am_up (am_up s 34 6 (0)) 34 6 (0)) (v := 1) (w := 5) (by omega) ) ?_
        refine az_to 0 (pc2 := 64) (lv2 := [some (az_r 34), some (az_i (zl)), some (az_i (zc)), none]) (st2 := [az_i (0)]) (s2 := am_up (am_up s 34 6 (0)) 34 6 (0)) rfl ?_
        refine az_ifc 69 67 rfl (by decide) ⟨by decide, by decide⟩ (fun _ => ?_) (fun h => absurd (show az_cnd _ _ _ by unfold az_cnd; decide) h)
        refine az_to 3 (pc2 := 74) (lv2 := [some (az_r 34), some (az_i (zl)), some (az_i (zc)), none]) (st2 := [az_i (2), az_r 35]) (s2 := am_up (am_up s 34 6 (0)) 34 6 (0)) rfl ?_
        refine az_ld_i 75 rfl rfl (by constructor <;> omega) ⟨by decide, rfl⟩ ?_
        refine az_to 0 (pc2 := 75) (lv2 := [some (az_r 34), some (az_i (zl)), some (az_i (zc)), none]) (st2 := [az_i ((am_up (am_up s 34 6 (0)) 34 6 (0)) 35 2)]) (s2 := am_up (am_up s 34 6 (0)) 34 6 (0)) rfl ?_
        refine az_to 0 (pc2 := 75) (lv2 := [some (az_r 34), some (az_i (zl)), some (az_i (zc)), none]) (st2 := [az_i (((zn S 2 : Nat) : Int))]) (s2 := am_up (am_up s 34 6 (0)) 34 6 (0)) (by rw [show (am_up (am_up s 34 6 (0)) 34 6 (0)) 35 2 = ((zn S 2 : Nat) : Int) from hs2]; rfl) ?_
        refine az_to 5 (pc2 := 80) (lv2 := [some (az_r 34), some (az_i (zl)), some (az_i (zc)), some (az_i (((zn S 2 : Nat) : Int)))]) (st2 := [az_i (zl), az_i (0), az_i (((zn S 2 : Nat) : Int)), az_r 34]) (s2 := am_up (am_up s 34 6 (0)) 34 6 (0)) rfl ?_
        refine az_clv (v := none) (t := am_up (am_up (am_up s 34 6 (0)) 34 6 (0)) 35 (150 + 5 * (zn S 2) + 0) (zl)) (m2 := am_m_X10_setsGoat) (as := [az_r 34, az_i (((zn S 2 : Nat) : Int)), az_i (0), az_i (zl)]) (rest := []) 83 rfl rfl ⟨rfl, rfl⟩ (by omega) (zs_X10_setsGoat (s := am_up (am_up s 34 6 (0)) 34 6 (0)) (g := (zn S 2)) (k := 0) (v := zl) (by omega) (by omega) (by omega)) ?_
        refine az_to 0 (pc2 := 83) (lv2 := [some (az_r 34), some (az_i (zl)), some (az_i (zc)), some (az_i (((zn S 2 : Nat) : Int)))]) (st2 := []) (s2 := am_up (am_up (am_up s 34 6 (0)) 34 6 (0)) 35 (150 + 5 * (zn S 2) + 0) (zl)) rfl ?_
        refine az_to 4 (pc2 := 87) (lv2 := [some (az_r 34), some (az_i (zl)), some (az_i (zc)), some (az_i (((zn S 2 : Nat) : Int)))]) (st2 := [az_i (zc), az_i (1), az_i (((zn S 2 : Nat) : Int)), az_r 34]) (s2 := am_up (am_up (am_up s 34 6 (0)) 34 6 (0)) 35 (150 + 5 * (zn S 2) + 0) (zl)) rfl ?_
        refine az_clv (v := none) (t := am_up (am_up (am_up (am_up s 34 6 (0)) 34 6 (0)) 35 (150 + 5 * (zn S 2) + 0) (zl)) 35 (150 + 5 * (zn S 2) + 1) (zc)) (m2 := am_m_X10_setsGoat) (as := [az_r 34, az_i (((zn S 2 : Nat) : Int)), az_i (1), az_i (zc)]) (rest := []) 90 rfl rfl ⟨rfl, rfl⟩ (by omega) (zs_X10_setsGoat (s := am_up (am_up (am_up s 34 6 (0)) 34 6 (0)) 35 (150 + 5 * (zn S 2) + 0) (zl)) (g := (zn S 2)) (k := 1) (v := zc) (by omega) (by omega) (by omega)) ?_
        refine az_to 0 (pc2 := 90) (lv2 := [some (az_r 34), some (az_i (zl)), some (az_i (zc)), some (az_i (((zn S 2 : Nat) : Int)))]) (st2 := []) (s2 := am_up (am_up (am_up (am_up s 34 6 (0)) 34 6 (0)) 35 (150 + 5 * (zn S 2) + 0) (zl)) 35 (150 + 5 * (zn S 2) + 1) (zc)) rfl ?_
        refine az_to 4 (pc2 := 96) (lv2 := [some (az_r 34), some (az_i (zl)), some (az_i (zc)), some (az_i (((zn S 2 : Nat) : Int)))]) (st2 := [az_i (2), az_r 35, az_i (2), az_r 35]) (s2 := am_up (am_up (am_up (am_up s 34 6 (0)) 34 6 (0)) 35 (150 + 5 * (zn S 2) + 0) (zl)) 35 (150 + 5 * (zn S 2) + 1) (zc)) rfl ?_
        refine az_ld_i 97 rfl rfl (by constructor <;> omega) ⟨by decide, rfl⟩ ?_
        refine az_to 0 (pc2 := 97) (lv2 := [some (az_r 34), some (az_i (zl)), some (az_i (zc)), some (az_i (((zn S 2 : Nat) : Int)))]) (st2 := [az_i ((am_up (am_up (am_up (am_up s 34 6 (0)) 34 6 (0)) 35 (150 + 5 * (zn S 2) + 0) (zl)) 35 (150 + 5 * (zn S 2) + 1) (zc)) 35 2), az_i (2), az_r 35]) (s2 := am_up (am_up (am_up (am_up s 34 6 (0)) 34 6 (0)) 35 (150 + 5 * (zn S 2) + 0) (zl)) 35 (150 + 5 * (zn S 2) + 1) (zc)) rfl ?_
        refine az_to 0 (pc2 := 97) (lv2 := [some (az_r 34), some (az_i (zl)), some (az_i (zc)), some (az_i (((zn S 2 : Nat) : Int)))]) (st2 := [az_i (S 2), az_i (2), az_r 35]) (s2 := am_up (am_up (am_up (am_up s 34 6 (0)) 34 6 (0)) 35 (150 + 5 * (zn S 2) + 0) (zl)) 35 (150 + 5 * (zn S 2) + 1) (zc)) (by rw [show (am_up (am_up (am_up (am_up s 34 6 (0)) 34 6 (0)) 35 (150 + 5 * (zn S 2) + 0) (zl)) 35 (150 + 5 * (zn S 2) + 1) (zc)) 35 2 = S 2 from (by show (zup (zup (s 35) (150 + 5 * (zn S 2) + 0) (zl)) (150 + 5 * (zn S 2) + 1) (zc)) 2 = S 2; rw [zup_ne _ _ (by omega), zup_ne _ _ (by omega), hS])]; rfl) ?_
        refine az_to 2 (pc2 := 99) (lv2 := [some (az_r 34), some (az_i (zl)), some (az_i (zc)), some (az_i (((zn S 2 : Nat) : Int)))]) (st2 := [az_i ((S 2 + 1)), az_i (2), az_r 35]) (s2 := am_up (am_up (am_up (am_up s 34 6 (0)) 34 6 (0)) 35 (150 + 5 * (zn S 2) + 0) (zl)) 35 (150 + 5 * (zn S 2) + 1) (zc)) rfl ?_
        refine az_st_i 100 rfl rfl (by constructor <;> omega) ⟨by decide, rfl⟩ ?_
        refine az_to 4 (pc2 := 106) (lv2 := [some (az_r 34), some (az_i (zl)), some (az_i (zc)), some (az_i (((zn S 2 : Nat) : Int)))]) (st2 := [az_i (5), az_r 35, az_i (5), az_r 35]) (s2 := am_up (am_up (am_up (am_up (am_up s 34 6 (0)) 34 6 (0)) 35 (150 + 5 * (zn S 2) + 0) (zl)) 35 (150 + 5 * (zn S 2) + 1) (zc)) 35 2 ((S 2 + 1))) rfl ?_
        refine az_ld_i 107 rfl rfl (by constructor <;> omega) ⟨by decide, rfl⟩ ?_
        refine az_to 0 (pc2 := 107) (lv2 := [some (az_r 34), some (az_i (zl)), some (az_i (zc)), some (az_i (((zn S 2 : Nat) : Int)))]) (st2 := [az_i ((am_up (am_up (am_up (am_up (am_up s 34 6 (0)) 34 6 (0)) 35 (150 + 5 * (zn S 2) + 0) (zl)) 35 (150 + 5 * (zn S 2) + 1) (zc)) 35 2 ((S 2 + 1))) 35 5), az_i (5), az_r 35]) (s2 := am_up (am_up (am_up (am_up (am_up s 34 6 (0)) 34 6 (0)) 35 (150 + 5 * (zn S 2) + 0) (zl)) 35 (150 + 5 * (zn S 2) + 1) (zc)) 35 2 ((S 2 + 1))) rfl ?_
        refine az_to 0 (pc2 := 107) (lv2 := [some (az_r 34), some (az_i (zl)), some (az_i (zc)), some (az_i (((zn S 2 : Nat) : Int)))]) (st2 := [az_i (S 5), az_i (5), az_r 35]) (s2 := am_up (am_up (am_up (am_up (am_up s 34 6 (0)) 34 6 (0)) 35 (150 + 5 * (zn S 2) + 0) (zl)) 35 (150 + 5 * (zn S 2) + 1) (zc)) 35 2 ((S 2 + 1))) (by rw [show (am_up (am_up (am_up (am_up (am_up s 34 6 (0)) 34 6 (0)) 35 (150 + 5 * (zn S 2) + 0) (zl)) 35 (150 + 5 * (zn S 2) + 1) (zc)) 35 2 ((S 2 + 1))) 35 5 = S 5 from (by show (zup (zup (zup (s 35) (150 + 5 * (zn S 2) + 0) (zl)) (150 + 5 * (zn S 2) + 1) (zc)) (2) (S 2 + 1)) 5 = S 5; rw [zup_ne _ _ (by omega), zup_ne _ _ (by omega), zup_ne _ _ (by omega), hS])]; rfl) ?_
        refine az_to 2 (pc2 := 109) (lv2 := [some (az_r 34), some (az_i (zl)), some (az_i (zc)), some (az_i (((zn S 2 : Nat) : Int)))]) (st2 := [az_i ((S 5 + zc)), az_i (5), az_r 35]) (s2 := am_up (am_up (am_up (am_up (am_up s 34 6 (0)) 34 6 (0)) 35 (150 + 5 * (zn S 2) + 0) (zl)) 35 (150 + 5 * (zn S 2) + 1) (zc)) 35 2 ((S 2 + 1))) rfl ?_
        refine az_st_i 110 rfl rfl (by constructor <;> omega) ⟨by decide, rfl⟩ ?_
        refine az_to 1 (pc2 := 111) (lv2 := [some (az_r 34), some (az_i (zl)), some (az_i (zc)), some (az_i (((zn S 2 : Nat) : Int)))]) (st2 := [az_i (((zn S 2 : Nat) : Int))]) (s2 := am_up (am_up (am_up (am_up (am_up (am_up s 34 6 (0)) 34 6 (0)) 35 (150 + 5 * (zn S 2) + 0) (zl)) 35 (150 + 5 * (zn S 2) + 1) (zc)) 35 2 ((S 2 + 1))) 35 5 ((S 5 + zc))) rfl ?_
        refine az_retI rfl rfl ?_
        have e : zo_goat S zl zc = (0, ((zn S 2 : Nat) : Int), 0, zup (zup (zup (zup S (150 + 5 * zn S 2 + 0) zl) (150 + 5 * zn S 2 + 1) zc) 2 (S 2 + 1)) 5 (S 5 + zc)) := by
          simp only [zo_goat, Int.toNat_natCast]
          rw [if_neg (by omega), if_neg (by omega), if_neg (by omega)]
        rw [e]
        exact ⟨rfl, (by rw [← hS]; rfl), rfl, (fun h => absurd (show (0 : Nat) = 3 from h) (by decide)), (fun _ => ⟨rfl, rfl, rfl⟩), (fun j h6 h7 h8 h9 => by simp [am_up, h6, h7, h8, h9]), (fun i h1 h2 => by funext j; simp [am_up, h1, h2])⟩
      · have h3 : ((zn S 2 : Nat) : Int) = 5 := Decidable.not_not.mp h3
        refine az_to 4 (pc2 := 61) (lv2 := [some (az_r 34), some (az_i (zl)), some (az_i (zc)), none]) (st2 := [az_i (5), az_i (1), az_i (1), az_r 34]) (s2 := am_up (am_up s 34 6 (0)) 34 6 (0)) rfl ?_
        refine az_clv (v := some (az_i (1))) (t := am_up (am_up (am_up (am_up (am_up (am_up s 34 6 (0)) 34 6 (0)) 34 7 (1)) 34 8 (5)) 34 9 (0)) 34 6 (9)) (m2 := am_m_X10_isRefused) (as := [az_r 34, az_i (1), az_i (1), az_i (5)]) (rest := []) 64 rfl rfl ⟨rfl, rfl⟩ (by omega) (zs_X10_isRefused_t (s := am_up (am_up s 34 6 (0)) 34 6 (0)) (v := 1) (w := 5) (by omega) ) ?_
        refine az_to 0 (pc2 := 64) (lv2 := [some (az_r 34), some (az_i (zl)), some (az_i (zc)), none]) (st2 := [az_i (1)]) (s2 := am_up (am_up (am_up (am_up (am_up (am_up s 34 6 (0)) 34 6 (0)) 34 7 (1)) 34 8 (5)) 34 9 (0)) 34 6 (9)) rfl ?_
        refine az_ifc 69 67 rfl (by decide) ⟨by decide, by decide⟩ (fun h => absurd h (by unfold az_cnd; decide)) (fun _ => ?_)
        refine az_to 1 (pc2 := 68) (lv2 := [some (az_r 34), some (az_i (zl)), some (az_i (zc)), none]) (st2 := [az_i (0)]) (s2 := am_up (am_up (am_up (am_up (am_up (am_up s 34 6 (0)) 34 6 (0)) 34 7 (1)) 34 8 (5)) 34 9 (0)) 34 6 (9)) rfl ?_
        refine az_retI rfl rfl ?_
        have e : zo_goat S zl zc = (3, 1, 5, S) := by
          simp only [zo_goat, Int.toNat_natCast]
          first | (rw [if_pos (by omega)]) | (rw [if_neg (by omega), if_pos (by omega)]) | (rw [if_neg (by omega), if_neg (by omega), if_pos (by omega)]) | (rw [if_neg (by omega), if_neg (by omega), if_neg (by omega), if_pos (by omega)]) | (rw [if_neg (by omega), if_neg (by omega), if_neg (by omega), if_neg (by omega), if_pos (by omega)])
        rw [e]
        exact ⟨rfl, hS, rfl, (fun _ => ⟨rfl, rfl, rfl⟩), (fun h => absurd rfl h), (fun j h6 h7 h8 h9 => by simp [am_up, h6, h7, h8, h9]), (fun i h1 h2 => by funext j; simp [am_up, h1, h2])⟩
    · have h2 : ¬ (0 ≤ zc ∧ zc ≤ 99) := h2
      refine az_to 3 (pc2 := 37) (lv2 := [some (az_r 34), some (az_i (zl)), some (az_i (zc)), none]) (st2 := [az_i (2), az_i (1), az_r 34]) (s2 := am_up s 34 6 (0)) rfl ?_
      refine az_clv (v := some (az_i (1))) (t := am_up (am_up s 34 6 (0)) 34 6 (2)) (m2 := am_m_X10_isThrown) (as := [az_r 34, az_i (1), az_i (2)]) (rest := []) 40 rfl rfl ⟨rfl, rfl⟩ (by omega) (zs_X10_isThrown_t (s := am_up s 34 6 (0)) (v := 2) (by omega) ) ?_
      refine az_to 0 (pc2 := 40) (lv2 := [some (az_r 34), some (az_i (zl)), some (az_i (zc)), none]) (st2 := [az_i (1)]) (s2 := am_up (am_up s 34 6 (0)) 34 6 (2)) rfl ?_
      refine az_ifc 67 43 rfl (by decide) ⟨by decide, by decide⟩ (fun _ => ?_) (fun h => absurd (show az_cnd _ _ _ by unfold az_cnd; decide) h)
      refine az_to 1 (pc2 := 68) (lv2 := [some (az_r 34), some (az_i (zl)), some (az_i (zc)), none]) (st2 := [az_i (0)]) (s2 := am_up (am_up s 34 6 (0)) 34 6 (2)) rfl ?_
      refine az_retI rfl rfl ?_
      have e : zo_goat S zl zc = (2, 0, 0, S) := by
        simp only [zo_goat, Int.toNat_natCast]
        first | (rw [if_pos (by omega)]) | (rw [if_neg (by omega), if_pos (by omega)]) | (rw [if_neg (by omega), if_neg (by omega), if_pos (by omega)]) | (rw [if_neg (by omega), if_neg (by omega), if_neg (by omega), if_pos (by omega)]) | (rw [if_neg (by omega), if_neg (by omega), if_neg (by omega), if_neg (by omega), if_pos (by omega)])
      rw [e]
      exact ⟨rfl, hS, rfl, (fun h => absurd (show (2 : Nat) = 3 from h) (by decide)), (fun _ => ⟨rfl, rfl, rfl⟩), (fun j h6 h7 h8 h9 => by simp [am_up, h6, h7, h8, h9]), (fun i h1 h2 => by funext j; simp [am_up, h1, h2])⟩
  · have h1 : ¬ (0 ≤ zl ∧ zl ≤ 5) := h1
    refine az_to 3 (pc2 := 14) (lv2 := [some (az_r 34), some (az_i (zl)), some (az_i (zc)), none]) (st2 := [az_i (1), az_i (1), az_r 34]) (s2 := s) rfl ?_
    refine az_clv (v := some (az_i (1))) (t := am_up s 34 6 (1)) (m2 := am_m_X10_isThrown) (as := [az_r 34, az_i (1), az_i (1)]) (rest := []) 17 rfl rfl ⟨rfl, rfl⟩ (by omega) (zs_X10_isThrown_t (s := s) (v := 1) (by omega) ) ?_
    refine az_to 0 (pc2 := 17) (lv2 := [some (az_r 34), some (az_i (zl)), some (az_i (zc)), none]) (st2 := [az_i (1)]) (s2 := am_up s 34 6 (1)) rfl ?_
    refine az_ifc 67 20 rfl (by decide) ⟨by decide, by decide⟩ (fun _ => ?_) (fun h => absurd (show az_cnd _ _ _ by unfold az_cnd; decide) h)
    refine az_to 1 (pc2 := 68) (lv2 := [some (az_r 34), some (az_i (zl)), some (az_i (zc)), none]) (st2 := [az_i (0)]) (s2 := am_up s 34 6 (1)) rfl ?_
    refine az_retI rfl rfl ?_
    have e : zo_goat S zl zc = (1, 0, 0, S) := by
      simp only [zo_goat, Int.toNat_natCast]
      first | (rw [if_pos (by omega)]) | (rw [if_neg (by omega), if_pos (by omega)]) | (rw [if_neg (by omega), if_neg (by omega), if_pos (by omega)]) | (rw [if_neg (by omega), if_neg (by omega), if_neg (by omega), if_pos (by omega)]) | (rw [if_neg (by omega), if_neg (by omega), if_neg (by omega), if_neg (by omega), if_pos (by omega)])
    rw [e]
    exact ⟨rfl, hS, rfl, (fun h => absurd (show (1 : Nat) = 3 from h) (by decide)), (fun _ => ⟨rfl, rfl, rfl⟩), (fun j h6 h7 h8 h9 => by simp [am_up, h6, h7, h8, h9]), (fun i h1 h2 => by funext j; simp [am_up, h1, h2])⟩
set_option maxRecDepth 100000 in
set_option maxHeartbeats 800000 in
theorem zs_X10_posts {d : Nat} {s : az_S} (hd : 3 ≤ d) {S : zR} {h : Nat} (hS : s 35 = S) (hI : zInv S h) (hh : h ≤ 10000) {zt : Int} {zb : Int} (h_zt : az_in zt) (h_zb : az_in zb) : az_R d am_m_X10_posts 0 (az_ini (am_mL am_m_X10_posts) [az_r 34, az_i (zt), az_i (zb)]) [] (s) (zMq s (zo_post S zt zb) 2) := by
  have hz := zI_h hI hh
  have hs0 : s 35 0 = ((zn S 0 : Nat) : Int) := by rw [hS, hz.2.1.1]
  have hs1 : s 35 1 = ((zn S 1 : Nat) : Int) := by rw [hS, hz.2.1.2.1]
  have hs2 : s 35 2 = ((zn S 2 : Nat) : Int) := by rw [hS, hz.2.1.2.2]
  have hs3 : s 35 3 = S 3 := by rw [hS]
  have hs5 : s 35 5 = S 5 := by rw [hS]
  refine az_to 0 (pc2 := 0) (lv2 := [some (az_r 34), some (az_i (zt)), some (az_i (zb)), none, none]) (st2 := []) (s2 := s) rfl ?_
  refine az_to 3 (pc2 := 3) (lv2 := [some (az_r 34), some (az_i (zt)), some (az_i (zb)), none, none]) (st2 := [az_i (zt), az_r 34, az_r 34]) (s2 := s) rfl ?_
  refine az_clv (v := some (az_i (az_b (0 ≤ zt ∧ zt < ((zn S 1 : Nat) : Int))))) (t := s) (m2 := am_m_X10_isTroll) (as := [az_r 34, az_i (zt)]) (rest := [az_r 34]) 6 rfl rfl ⟨rfl, rfl⟩ (by omega) (zs_X10_isTroll (s := s) (z := zt) (by omega) hS hI hh (by first | assumption | exact ⟨by omega, by omega⟩)) ?_
  refine az_to 0 (pc2 := 6) (lv2 := [some (az_r 34), some (az_i (zt)), some (az_i (zb)), none, none]) (st2 := [az_i (az_b (0 ≤ zt ∧ zt < ((zn S 1 : Nat) : Int))), az_r 34]) (s2 := s) rfl ?_
  refine az_ifbe 17 9 rfl (by decide) (fun h1 => ?_) (fun h1 => ?_)
  · have h1 : ¬ (0 ≤ zt ∧ zt < ((zn S 1 : Nat) : Int)) := h1
    refine az_to 3 (pc2 := 23) (lv2 := [some (az_r 34), some (az_i (zt)), some (az_i (zb)), none, none]) (st2 := [az_i (1), az_i (1), az_r 34]) (s2 := s) rfl ?_
    refine az_clv (v := some (az_i (1))) (t := am_up s 34 6 (1)) (m2 := am_m_X10_isThrown) (as := [az_r 34, az_i (1), az_i (1)]) (rest := []) 26 rfl rfl ⟨rfl, rfl⟩ (by omega) (zs_X10_isThrown_t (s := s) (v := 1) (by omega) ) ?_
    refine az_to 0 (pc2 := 26) (lv2 := [some (az_r 34), some (az_i (zt)), some (az_i (zb)), none, none]) (st2 := [az_i (1)]) (s2 := am_up s 34 6 (1)) rfl ?_
    refine az_ifc 31 29 rfl (by decide) ⟨by decide, by decide⟩ (fun h => absurd h (by unfold az_cnd; decide)) (fun _ => ?_)
    refine az_to 1 (pc2 := 30) (lv2 := [some (az_r 34), some (az_i (zt)), some (az_i (zb)), none, none]) (st2 := [az_i (0)]) (s2 := am_up s 34 6 (1)) rfl ?_
    refine az_retI rfl rfl ?_
    have e : zo_post S zt zb = (1, 0, 0, S) := by
      simp only [zo_post, Int.toNat_natCast]
      first | (rw [if_pos (by omega)]) | (rw [if_neg (by omega), if_pos (by omega)]) | (rw [if_neg (by omega), if_neg (by omega), if_pos (by omega)]) | (rw [if_neg (by omega), if_neg (by omega), if_neg (by omega), if_pos (by omega)]) | (rw [if_neg (by omega), if_neg (by omega), if_neg (by omega), if_neg (by omega), if_pos (by omega)])
    rw [e]
    exact ⟨rfl, hS, rfl, (fun h => absurd (show (1 : Nat) = 3 from h) (by decide)), (fun _ => ⟨rfl, rfl, rfl⟩), (fun j h6 h7 h8 h9 => by simp [am_up, h6, h7, h8, h9]), (fun i h1 h2 => by funext j; simp [am_up, h1, h2])⟩
  · have h1 : 0 ≤ zt ∧ zt < ((zn S 1 : Nat) : Int) := h1
    obtain ⟨t, rfl⟩ : ∃ n0 : Nat, zt = n0 := ⟨zt.toNat, by omega⟩
    have hzt := zI_t hI hh (t := t) (by omega)
    have hzu := hI.2.2.2.2.2.1 t (by omega)
    refine az_to 0 (pc2 := 9) (lv2 := [some (az_r 34), some (az_i (((t : Nat) : Int))), some (az_i (zb)), none, none]) (st2 := [az_r 34]) (s2 := s) (rfl) ?_
    refine az_to 2 (pc2 := 11) (lv2 := [some (az_r 34), some (az_i (((t : Nat) : Int))), some (az_i (zb)), none, none]) (st2 := [az_i (zb), az_r 34, az_r 34]) (s2 := s) rfl ?_
    refine az_clv (v := some (az_i (az_b (0 ≤ zb ∧ zb < ((zn S 0 : Nat) : Int))))) (t := s) (m2 := am_m_X10_isBridge) (as := [az_r 34, az_i (zb)]) (rest := [az_r 34]) 14 rfl rfl ⟨rfl, rfl⟩ (by omega) (zs_X10_isBridge (s := s) (z := zb) (by omega) hS hI hh (by first | assumption | exact ⟨by omega, by omega⟩)) ?_
    refine az_to 0 (pc2 := 14) (lv2 := [some (az_r 34), some (az_i (((t : Nat) : Int))), some (az_i (zb)), none, none]) (st2 := [az_i (az_b (0 ≤ zb ∧ zb < ((zn S 0 : Nat) : Int))), az_r 34]) (s2 := s) rfl ?_
    refine az_ifbn 21 17 rfl (by decide) (fun h2 => ?_) (fun h2 => ?_)
    · have h2 : 0 ≤ zb ∧ zb < ((zn S 0 : Nat) : Int) := h2
      obtain ⟨b, rfl⟩ : ∃ n0 : Nat, zb = n0 := ⟨zb.toNat, by omega⟩
      have hzb := zI_b hI hh (b := b) (by omega)
      refine az_to 0 (pc2 := 21) (lv2 := [some (az_r 34), some (az_i (((t : Nat) : Int))), some (az_i (((b : Nat) : Int))), none, none]) (st2 := [az_r 34]) (s2 := s) (rfl) ?_
      refine az_to 2 (pc2 := 23) (lv2 := [some (az_r 34), some (az_i (((t : Nat) : Int))), some (az_i (((b : Nat) : Int))), none, none]) (st2 := [az_i (1), az_i (0), az_r 34]) (s2 := s) rfl ?_
      refine az_clv (v := some (az_i (0))) (t := am_up s 34 6 (0)) (m2 := am_m_X10_isThrown) (as := [az_r 34, az_i (0), az_i (1)]) (rest := []) 26 rfl rfl ⟨rfl, rfl⟩ (by omega) (zs_X10_isThrown_f (s := s) (v := 1) (by omega) ) ?_
      refine az_to 0 (pc2 := 26) (lv2 := [some (az_r 34), some (az_i (((t : Nat) : Int))), some (az_i (((b : Nat) : Int))), none, none]) (st2 := [az_i (0)]) (s2 := am_up s 34 6 (0)) rfl ?_
      refine az_ifc 31 29 rfl (by decide) ⟨by decide, by decide⟩ (fun _ => ?_) (fun h => absurd (show az_cnd _ _ _ by unfold az_cnd; decide) h)
      refine az_to 3 (pc2 := 34) (lv2 := [some (az_r 34), some (az_i (((t : Nat) : Int))), some (az_i (((b : Nat) : Int))), none, none]) (st2 := [az_i (0), az_i (((t : Nat) : Int)), az_r 34]) (s2 := am_up s 34 6 (0)) rfl ?_
      refine az_clv (v := some (az_i (zT S t 0))) (t := am_up s 34 6 (0)) (m2 := am_m_X10_ofTroll) (as := [az_r 34, az_i (((t : Nat) : Int)), az_i (0)]) (rest := []) 37 rfl rfl ⟨rfl, rfl⟩ (by omega) (zs_X10_ofTroll (s := am_up s 34 6 (0)) (t := t) (k := 0) (by omega) hS (by omega) (by omega)) ?_
      refine az_to 0 (pc2 := 37) (lv2 := [some (az_r 34), some (az_i (((t : Nat) : Int))), some (az_i (((b : Nat) : Int))), none, none]) (st2 := [az_i (zT S t 0)]) (s2 := am_up s 34 6 (0)) rfl ?_
      refine az_to 4 (pc2 := 41) (lv2 := [some (az_r 34), some (az_i (((t : Nat) : Int))), some (az_i (((b : Nat) : Int))), some (az_i (zT S t 0)), none]) (st2 := [az_i (((b : Nat) : Int)), az_i (zT S t 0), az_r 34]) (s2 := am_up s 34 6 (0)) rfl ?_
      refine az_if2 48 44 rfl (by decide) (by first | assumption | exact ⟨by omega, by omega⟩) (by first | assumption | exact ⟨by omega, by omega⟩) (fun h3 => ?_) (fun h3 => ?_)
      · have h3 : ¬ zT S t 0 = ((b : Nat) : Int) := h3
        refine az_to 3 (pc2 := 51) (lv2 := [some (az_r 34), some (az_i (((t : Nat) : Int))), some (az_i (((b : Nat) : Int))), some (az_i (zT S t 0)), none]) (st2 := [az_i (((b : Nat) : Int)), az_i (3), az_i (0), az_r 34]) (s2 := am_up s 34 6 (0)) rfl ?_
        refine az_clv (v := some (az_i (0))) (t := am_up s 34 6 (0)) (m2 := am_m_X10_isRefused) (as := [az_r 34, az_i (0), az_i (3), az_i (((b : Nat) : Int))]) (rest := []) 54 rfl rfl ⟨rfl, rfl⟩ (by omega) (zs_X10_isRefused_f (s := am_up s 34 6 (0)) (v := 3) (w := (((b : Nat) : Int))) (by omega) ) ?_
        refine az_to 0 (pc2 := 54) (lv2 := [some (az_r 34), some (az_i (((t : Nat) : Int))), some (az_i (((b : Nat) : Int))), some (az_i (zT S t 0)), none]) (st2 := [az_i (0)]) (s2 := am_up s 34 6 (0)) rfl ?_
        refine az_ifc 69 57 rfl (by decide) ⟨by decide, by decide⟩ (fun h => absurd h (by unfold az_cnd; decide)) (fun _ => ?_)
        refine az_to 1 (pc2 := 58) (lv2 := [some (az_r 34), some (az_i (((t : Nat) : Int))), some (az_i (((b : Nat) : Int))), some (az_i (zT S t 0)), none]) (st2 := [az_i (zT S t 0)]) (s2 := am_up s 34 6 (0)) rfl ?_
        refine az_ifc 71 61 rfl (by decide) (by first | assumption | exact ⟨by omega, by omega⟩) (fun h4 => ?_) (fun h4 => ?_)
        · have h4 : zT S t 0 < 0 := h4
          refine az_to 2 (pc2 := 73) (lv2 := [some (az_r 34), some (az_i (((t : Nat) : Int))), some (az_i (((b : Nat) : Int))), some (az_i (zT S t 0)), none]) (st2 := [az_i (((b : Nat) : Int)), az_r 34]) (s2 := am_up s 34 6 (0)) rfl ?_
          refine az_clv (v := some (az_i (zat S b))) (t := am_up s 34 6 (0)) (m2 := am_m_X10_trollAt) (as := [az_r 34, az_i (((b : Nat) : Int))]) (rest := []) 76 rfl rfl ⟨rfl, rfl⟩ (by omega) (zs_X10_trollAt (s := am_up s 34 6 (0)) (b := b) (by omega) hS hI hh (by omega)) ?_
          refine az_to 0 (pc2 := 76) (lv2 := [some (az_r 34), some (az_i (((t : Nat) : Int))), some (az_i (((b : Nat) : Int))), some (az_i (zT S t 0)), none]) (st2 := [az_i (zat S b)]) (s2 := am_up s 34 6 (0)) rfl ?_
          refine az_to 3 (pc2 := 81) (lv2 := [some (az_r 34), some (az_i (((t : Nat) : Int))), some (az_i (((b : Nat) : Int))), some (az_i (zT S t 0)), some (az_i (zat S b))]) (st2 := [az_i (zat S b), az_r 34]) (s2 := am_up s 34 6 (0)) rfl ?_
          refine az_ifc 88 84 rfl (by decide) (by first | assumption | exact ⟨by omega, by omega⟩) (fun h5 => ?_) (fun h5 => ?_)
          · have h5 : zat S b < 0 := h5
            refine az_to 3 (pc2 := 92) (lv2 := [some (az_r 34), some (az_i (((t : Nat) : Int))), some (az_i (((b : Nat) : Int))), some (az_i (zT S t 0)), some (az_i (zat S b))]) (st2 := [az_i (zat S b), az_i (4), az_i (0), az_r 34]) (s2 := am_up s 34 6 (0)) rfl ?_
            refine az_clv (v := some (az_i (0))) (t := am_up s 34 6 (0)) (m2 := am_m_X10_isRefused) (as := [az_r 34, az_i (0), az_i (4), az_i (zat S b)]) (rest := []) 95 rfl rfl ⟨rfl, rfl⟩ (by omega) (zs_X10_isRefused_f (s := am_up s 34 6 (0)) (v := 4) (w := (zat S b)) (by omega) ) ?_
            refine az_to 0 (pc2 := 95) (lv2 := [some (az_r 34), some (az_i (((t : Nat) : Int))), some (az_i (((b : Nat) : Int))), some (az_i (zT S t 0)), some (az_i (zat S b))]) (st2 := [az_i (0)]) (s2 := am_up s 34 6 (0)) rfl ?_
            refine az_ifc 100 98 rfl (by decide) ⟨by decide, by decide⟩ (fun _ => ?_) (fun h => absurd (show az_cnd _ _ _ by unfold az_cnd; decide) h)
            refine az_to 4 (pc2 := 104) (lv2 := [some (az_r 34), some (az_i (((t : Nat) : Int))), some (az_i (((b : Nat) : Int))), some (az_i (zT S t 0)), some (az_i (zat S b))]) (st2 := [az_i (((b : Nat) : Int)), az_i (0), az_i (((t : Nat) : Int)), az_r 34]) (s2 := am_up s 34 6 (0)) rfl ?_
            refine az_clv (v := none) (t := am_up (am_up s 34 6 (0)) 35 (126 + 4 * t + 0) ((((b : Nat) : Int)))) (m2 := am_m_X10_setsTroll) (as := [az_r 34, az_i (((t : Nat) : Int)), az_i (0), az_i (((b : Nat) : Int))]) (rest := []) 107 rfl rfl ⟨rfl, rfl⟩ (by omega) (zs_X10_setsTroll (s := am_up s 34 6 (0)) (t := t) (k := 0) (v := (((b : Nat) : Int))) (by omega) (by omega) (by omega)) ?_
            refine az_to 0 (pc2 := 107) (lv2 := [some (az_r 34), some (az_i (((t : Nat) : Int))), some (az_i (((b : Nat) : Int))), some (az_i (zT S t 0)), some (az_i (zat S b))]) (st2 := []) (s2 := am_up (am_up s 34 6 (0)) 35 (126 + 4 * t + 0) ((((b : Nat) : Int)))) rfl ?_
            refine az_to 1 (pc2 := 108) (lv2 := [some (az_r 34), some (az_i (((t : Nat) : Int))), some (az_i (((b : Nat) : Int))), some (az_i (zT S t 0)), some (az_i (zat S b))]) (st2 := [az_i (zT S t 0)]) (s2 := am_up (am_up s 34 6 (0)) 35 (126 + 4 * t + 0) ((((b : Nat) : Int)))) rfl ?_
            refine az_retI rfl rfl ?_
            have e : zo_post S ((t : Nat) : Int) ((b : Nat) : Int) = (0, zT S t 0, 0, zup S (126 + 4 * t + 0) b) := by
              simp only [zo_post, Int.toNat_natCast]
              rw [if_neg (by omega), if_neg (by omega), if_neg (by omega), if_neg (by omega)]
            rw [e]
            exact ⟨rfl, (by rw [← hS]; rfl), rfl, (fun h => absurd (show (0 : Nat) = 3 from h) (by decide)), (fun _ => ⟨rfl, rfl, rfl⟩), (fun j h6 h7 h8 h9 => by simp [am_up, h6, h7, h8, h9]), (fun i h1 h2 => by funext j; simp [am_up, h1, h2])⟩
          · have h5 : ¬ (zat S b < 0) := h5
            refine az_to 4 (pc2 := 92) (lv2 := [some (az_r 34), some (az_i (((t : Nat) : Int))), some (az_i (((b : Nat) : Int))), some (az_i (zT S t 0)), some (az_i (zat S b))]) (st2 := [az_i (zat S b), az_i (4), az_i (1), az_r 34]) (s2 := am_up s 34 6 (0)) rfl ?_
            refine az_clv (v := some (az_i (1))) (t := am_up (am_up (am_up (am_up (am_up s 34 6 (0)) 34 7 (4)) 34 8 ((zat S b))) 34 9 (0)) 34 6 (9)) (m2 := am_m_X10_isRefused) (as := [az_r 34, az_i (1), az_i (4), az_i (zat S b)]) (rest := []) 95 rfl rfl ⟨rfl, rfl⟩ (by omega) (zs_X10_isRefused_t (s := am_up s 34 6 (0)) (v := 4) (w := (zat S b)) (by omega) ) ?_
            refine az_to 0 (pc2 := 95) (lv2 := [some (az_r 34), some (az_i (((t : Nat) : Int))), some (az_i (((b : Nat) : Int))), some (az_i (zT S t 0)), some (az_i (zat S b))]) (st2 := [az_i (1)]) (s2 := am_up (am_up (am_up (am_up (am_up s 34 6 (0)) 34 7 (4)) 34 8 ((zat S b))) 34 9 (0)) 34 6 (9)) rfl ?_
            refine az_ifc 100 98 rfl (by decide) ⟨by decide, by decide⟩ (fun h => absurd h (by unfold az_cnd; decide)) (fun _ => ?_)
            refine az_to 1 (pc2 := 99) (lv2 := [some (az_r 34), some (az_i (((t : Nat) : Int))), some (az_i (((b : Nat) : Int))), some (az_i (zT S t 0)), some (az_i (zat S b))]) (st2 := [az_i (0)]) (s2 := am_up (am_up (am_up (am_up (am_up s 34 6 (0)) 34 7 (4)) 34 8 ((zat S b))) 34 9 (0)) 34 6 (9)) rfl ?_
            refine az_retI rfl rfl ?_
            have e : zo_post S ((t : Nat) : Int) ((b : Nat) : Int) = (3, 4, (zat S b), S) := by
              simp only [zo_post, Int.toNat_natCast]
              first | (rw [if_pos (by omega)]) | (rw [if_neg (by omega), if_pos (by omega)]) | (rw [if_neg (by omega), if_neg (by omega), if_pos (by omega)]) | (rw [if_neg (by omega), if_neg (by omega), if_neg (by omega), if_pos (by omega)]) | (rw [if_neg (by omega), if_neg (by omega), if_neg (by omega), if_neg (by omega), if_pos (by omega)])
            rw [e]
            exact ⟨rfl, hS, rfl, (fun _ => ⟨rfl, rfl, rfl⟩), (fun h => absurd rfl h), (fun j h6 h7 h8 h9 => by simp [am_up, h6, h7, h8, h9]), (fun i h1 h2 => by funext j; simp [am_up, h1, h2])⟩
        · have h4 : ¬ (zT S t 0 < 0) := h4
          obtain ⟨a, ha⟩ : ∃ n0 : Nat, zT S t 0 = n0 := ⟨(zT S t 0).toNat, by omega⟩
          have hza := zI_b hI hh (b := a) (by omega)
          refine az_to 0 (pc2 := 61) (lv2 := [some (az_r 34), some (az_i (((t : Nat) : Int))), some (az_i (((b : Nat) : Int))), some (az_i (((a : Nat) : Int))), none]) (st2 := []) (s2 := am_up s 34 6 (0)) (by rw [ha]; rfl) ?_
          refine az_to 2 (pc2 := 63) (lv2 := [some (az_r 34), some (az_i (((t : Nat) : Int))), some (az_i (((b : Nat) : Int))), some (az_i (((a : Nat) : Int))), none]) (st2 := [az_i (((a : Nat) : Int)), az_r 34]) (s2 := am_up s 34 6 (0)) rfl ?_
          by_cases h6 : 0 ≤ zB S a 5
          · skip
            refine az_clv (v := some (az_i (1))) (t := am_up (am_up (am_up (am_up (am_up s 34 6 (0)) 34 7 (10)) 34 8 (zB S a 5)) 34 9 (0)) 34 6 (9)) (m2 := am_m_X10_isDisputed) (as := [az_r 34, az_i (((a : Nat) : Int))]) (rest := []) 66 rfl rfl ⟨rfl, rfl⟩ (by omega) (zs_X10_isDisputed_t (s := am_up s 34 6 (0)) (b := a) (by omega) hS hI hh (by omega) (by first | assumption | omega)) ?_
            refine az_to 0 (pc2 := 66) (lv2 := [some (az_r 34), some (az_i (((t : Nat) : Int))), some (az_i (((b : Nat) : Int))), some (az_i (((a : Nat) : Int))), none]) (st2 := [az_i (1)]) (s2 := am_up (am_up (am_up (am_up (am_up s 34 6 (0)) 34 7 (10)) 34 8 (zB S a 5)) 34 9 (0)) 34 6 (9)) rfl ?_
            refine az_ifc 71 69 rfl (by decide) ⟨by decide, by decide⟩ (fun h => absurd h (by unfold az_cnd; decide)) (fun _ => ?_)
            refine az_to 1 (pc2 := 70) (lv2 := [some (az_r 34), some (az_i (((t : Nat) : Int))), some (az_i (((b : Nat) : Int))), some (az_i (((a : Nat) : Int))), none]) (st2 := [az_i (0)]) (s2 := am_up (am_up (am_up (am_up (am_up s 34 6 (0)) 34 7 (10)) 34 8 (zB S a 5)) 34 9 (0)) 34 6 (9)) rfl ?_
            refine az_retI rfl rfl ?_
            have e : zo_post S ((t : Nat) : Int) ((b : Nat) : Int) = (3, 10, zB S a 5, S) := by
              simp only [zo_post, Int.toNat_natCast, ha]
              first | (rw [if_pos (by omega)]) | (rw [if_neg (by omega), if_pos (by omega)]) | (rw [if_neg (by omega), if_neg (by omega), if_pos (by omega)]) | (rw [if_neg (by omega), if_neg (by omega), if_neg (by omega), if_pos (by omega)]) | (rw [if_neg (by omega), if_neg (by omega), if_neg (by omega), if_neg (by omega), if_pos (by omega)])
            rw [e]
            exact ⟨rfl, hS, rfl, (fun _ => ⟨rfl, rfl, rfl⟩), (fun h => absurd rfl h), (fun j h6 h7 h8 h9 => by simp [am_up, h6, h7, h8, h9]), (fun i h1 h2 => by funext j; simp [am_up, h1, h2])⟩
          · skip
            refine az_clv (v := some (az_i (0))) (t := am_up s 34 6 (0)) (m2 := am_m_X10_isDisputed) (as := [az_r 34, az_i (((a : Nat) : Int))]) (rest := []) 66 rfl rfl ⟨rfl, rfl⟩ (by omega) (zs_X10_isDisputed_f (s := am_up s 34 6 (0)) (b := a) (by omega) hS hI hh (by omega) (by first | assumption | omega)) ?_
            refine az_to 0 (pc2 := 66) (lv2 := [some (az_r 34), some (az_i (((t : Nat) : Int))), some (az_i (((b : Nat) : Int))), some (az_i (((a : Nat) : Int))), none]) (st2 := [az_i (0)]) (s2 := am_up s 34 6 (0)) rfl ?_
            refine az_ifc 71 69 rfl (by decide) ⟨by decide, by decide⟩ (fun _ => ?_) (fun h => absurd (show az_cnd _ _ _ by unfold az_cnd; decide) h)
            refine az_to 2 (pc2 := 73) (lv2 := [some (az_r 34), some (az_i (((t : Nat) : Int))), some (az_i (((b : Nat) : Int))), some (az_i (((a : Nat) : Int))), none]) (st2 := [az_i (((b : Nat) : Int)), az_r 34]) (s2 := am_up s 34 6 (0)) rfl ?_
            refine az_clv (v := some (az_i (zat S b))) (t := am_up s 34 6 (0)) (m2 := am_m_X10_trollAt) (as := [az_r 34, az_i (((b : Nat) : Int))]) (rest := []) 76 rfl rfl ⟨rfl, rfl⟩ (by omega) (zs_X10_trollAt (s := am_up s 34 6 (0)) (b := b) (by omega) hS hI hh (by omega)) ?_
            refine az_to 0 (pc2 := 76) (lv2 := [some (az_r 34), some (az_i (((t : Nat) : Int))), some (az_i (((b : Nat) : Int))), some (az_i (((a : Nat) : Int))), none]) (st2 := [az_i (zat S b)]) (s2 := am_up s 34 6 (0)) rfl ?_
            refine az_to 3 (pc2 := 81) (lv2 := [some (az_r 34), some (az_i (((t : Nat) : Int))), some (az_i (((b : Nat) : Int))), some (az_i (((a : Nat) : Int))), some (az_i (zat S b))]) (st2 := [az_i (zat S b), az_r 34]) (s2 := am_up s 34 6 (0)) rfl ?_
            refine az_ifc 88 84 rfl (by decide) (by first | assumption | exact ⟨by omega, by omega⟩) (fun h7 => ?_) (fun h7 => ?_)
            · have h7 : zat S b < 0 := h7
              refine az_to 3 (pc2 := 92) (lv2 := [some (az_r 34), some (az_i (((t : Nat) : Int))), some (az_i (((b : Nat) : Int))), some (az_i (((a : Nat) : Int))), some (az_i (zat S b))]) (st2 := [az_i (zat S b), az_i (4), az_i (0), az_r 34]) (s2 := am_up s 34 6 (0)) rfl ?_
              refine az_clv (v := some (az_i (0))) (t := am_up s 34 6 (0)) (m2 := am_m_X10_isRefused) (as := [az_r 34, az_i (0), az_i (4), az_i (zat S b)]) (rest := []) 95 rfl rfl ⟨rfl, rfl⟩ (by omega) (zs_X10_isRefused_f (s := am_up s 34 6 (0)) (v := 4) (w := (zat S b)) (by omega) ) ?_
              refine az_to 0 (pc2 := 95) (lv2 := [some (az_r 34), some (az_i (((t : Nat) : Int))), some (az_i (((b : Nat) : Int))), some (az_i (((a : Nat) : Int))), some (az_i (zat S b))]) (st2 := [az_i (0)]) (s2 := am_up s 34 6 (0)) rfl ?_
              refine az_ifc 100 98 rfl (by decide) ⟨by decide, by decide⟩ (fun _ => ?_) (fun h => absurd (show az_cnd _ _ _ by unfold az_cnd; decide) h)
              refine az_to 4 (pc2 := 104) (lv2 := [some (az_r 34), some (az_i (((t : Nat) : Int))), some (az_i (((b : Nat) : Int))), some (az_i (((a : Nat) : Int))), some (az_i (zat S b))]) (st2 := [az_i (((b : Nat) : Int)), az_i (0), az_i (((t : Nat) : Int)), az_r 34]) (s2 := am_up s 34 6 (0)) rfl ?_
              refine az_clv (v := none) (t := am_up (am_up s 34 6 (0)) 35 (126 + 4 * t + 0) ((((b : Nat) : Int)))) (m2 := am_m_X10_setsTroll) (as := [az_r 34, az_i (((t : Nat) : Int)), az_i (0), az_i (((b : Nat) : Int))]) (rest := []) 107 rfl rfl ⟨rfl, rfl⟩ (by omega) (zs_X10_setsTroll (s := am_up s 34 6 (0)) (t := t) (k := 0) (v := (((b : Nat) : Int))) (by omega) (by omega) (by omega)) ?_
              refine az_to 0 (pc2 := 107) (lv2 := [some (az_r 34), some (az_i (((t : Nat) : Int))), some (az_i (((b : Nat) : Int))), some (az_i (((a : Nat) : Int))), some (az_i (zat S b))]) (st2 := []) (s2 := am_up (am_up s 34 6 (0)) 35 (126 + 4 * t + 0) ((((b : Nat) : Int)))) rfl ?_
              refine az_to 1 (pc2 := 108) (lv2 := [some (az_r 34), some (az_i (((t : Nat) : Int))), some (az_i (((b : Nat) : Int))), some (az_i (((a : Nat) : Int))), some (az_i (zat S b))]) (st2 := [az_i (((a : Nat) : Int))]) (s2 := am_up (am_up s 34 6 (0)) 35 (126 + 4 * t + 0) ((((b : Nat) : Int)))) rfl ?_
              refine az_retI rfl rfl ?_
              have e : zo_post S ((t : Nat) : Int) ((b : Nat) : Int) = (0, ((a : Nat) : Int), 0, zup S (126 + 4 * t + 0) b) := by
                simp only [zo_post, Int.toNat_natCast, ha]
                rw [if_neg (by omega), if_neg (by omega), if_neg (by omega), if_neg (by omega)]
              rw [e]
              exact ⟨rfl, (by rw [← hS]; rfl), rfl, (fun h => absurd (show (0 : Nat) = 3 from h) (by decide)), (fun _ => ⟨rfl, rfl, rfl⟩), (fun j h6 h7 h8 h9 => by simp [am_up, h6, h7, h8, h9]), (fun i h1 h2 => by funext j; simp [am_up, h1, h2])⟩
            · have h7 : ¬ (zat S b < 0) := h7
              refine az_to 4 (pc2 := 92) (lv2 := [some (az_r 34), some (az_i (((t : Nat) : Int))), some (az_i (((b : Nat) : Int))), some (az_i (((a : Nat) : Int))), some (az_i (zat S b))]) (st2 := [az_i (zat S b), az_i (4), az_i (1), az_r 34]) (s2 := am_up s 34 6 (0)) rfl ?_
              refine az_clv (v := some (az_i (1))) (t := am_up (am_up (am_up (am_up (am_up s 34 6 (0)) 34 7 (4)) 34 8 ((zat S b))) 34 9 (0)) 34 6 (9)) (m2 := am_m_X10_isRefused) (as := [az_r 34, az_i (1), az_i (4), az_i (zat S b)]) (rest := []) 95 rfl rfl ⟨rfl, rfl⟩ (by omega) (zs_X10_isRefused_t (s := am_up s 34 6 (0)) (v := 4) (w := (zat S b)) (by omega) ) ?_
              refine az_to 0 (pc2 := 95) (lv2 := [some (az_r 34), some (az_i (((t : Nat) : Int))), some (az_i (((b : Nat) : Int))), some (az_i (((a : Nat) : Int))), some (az_i (zat S b))]) (st2 := [az_i (1)]) (s2 := am_up (am_up (am_up (am_up (am_up s 34 6 (0)) 34 7 (4)) 34 8 ((zat S b))) 34 9 (0)) 34 6 (9)) rfl ?_
              refine az_ifc 100 98 rfl (by decide) ⟨by decide, by decide⟩ (fun h => absurd h (by unfold az_cnd; decide)) (fun _ => ?_)
              refine az_to 1 (pc2 := 99) (lv2 := [some (az_r 34), some (az_i (((t : Nat) : Int))), some (az_i (((b : Nat) : Int))), some (az_i (((a : Nat) : Int))), some (az_i (zat S b))]) (st2 := [az_i (0)]) (s2 := am_up (am_up (am_up (am_up (am_up s 34 6 (0)) 34 7 (4)) 34 8 ((zat S b))) 34 9 (0)) 34 6 (9)) rfl ?_
              refine az_retI rfl rfl ?_
              have e : zo_post S ((t : Nat) : Int) ((b : Nat) : Int) = (3, 4, (zat S b), S) := by
                simp only [zo_post, Int.toNat_natCast, ha]
                first | (rw [if_pos (by omega)]) | (rw [if_neg (by omega), if_pos (by omega)]) | (rw [if_neg (by omega), if_neg (by omega), if_pos (by omega)]) | (rw [if_neg (by omega), if_neg (by omega), if_neg (by omega), if_pos (by omega)]) | (rw [if_neg (by omega), if_neg (by omega), if_neg (by omega), if_neg (by omega), if_pos (by omega)])
              rw [e]
              exact ⟨rfl, hS, rfl, (fun _ => ⟨rfl, rfl, rfl⟩), (fun h => absurd rfl h), (fun j h6 h7 h8 h9 => by simp [am_up, h6, h7, h8, h9]), (fun i h1 h2 => by funext j; simp [am_up, h1, h2])⟩
      · have h3 : zT S t 0 = ((b : Nat) : Int) := Decidable.not_not.mp h3
        refine az_to 4 (pc2 := 51) (lv2 := [some (az_r 34), some (az_i (((t : Nat) : Int))), some (az_i (((b : Nat) : Int))), some (az_i (zT S t 0)), none]) (st2 := [az_i (((b : Nat) : Int)), az_i (3), az_i (1), az_r 34]) (s2 := am_up s 34 6 (0)) rfl ?_
        refine az_clv (v := some (az_i (1))) (t := am_up (am_up (am_up (am_up (am_up s 34 6 (0)) 34 7 (3)) 34 8 ((((b : Nat) : Int)))) 34 9 (0)) 34 6 (9)) (m2 := am_m_X10_isRefused) (as := [az_r 34, az_i (1), az_i (3), az_i (((b : Nat) : Int))]) (rest := []) 54 rfl rfl ⟨rfl, rfl⟩ (by omega) (zs_X10_isRefused_t (s := am_up s 34 6 (0)) (v := 3) (w := (((b : Nat) : Int))) (by omega) ) ?_
        refine az_to 0 (pc2 := 54) (lv2 := [some (az_r 34), some (az_i (((t : Nat) : Int))), some (az_i (((b : Nat) : Int))), some (az_i (zT S t 0)), none]) (st2 := [az_i (1)]) (s2 := am_up (am_up (am_up (am_up (am_up s 34 6 (0)) 34 7 (3)) 34 8 ((((b : Nat) : Int)))) 34 9 (0)) 34 6 (9)) rfl ?_
        refine az_ifc 69 57 rfl (by decide) ⟨by decide, by decide⟩ (fun _ => ?_) (fun h => absurd (show az_cnd _ _ _ by unfold az_cnd; decide) h)
        refine az_to 1 (pc2 := 70) (lv2 := [some (az_r 34), some (az_i (((t : Nat) : Int))), some (az_i (((b : Nat) : Int))), some (az_i (zT S t 0)), none]) (st2 := [az_i (0)]) (s2 := am_up (am_up (am_up (am_up (am_up s 34 6 (0)) 34 7 (3)) 34 8 ((((b : Nat) : Int)))) 34 9 (0)) 34 6 (9)) rfl ?_
        refine az_retI rfl rfl ?_
        have e : zo_post S ((t : Nat) : Int) ((b : Nat) : Int) = (3, 3, (((b : Nat) : Int)), S) := by
          simp only [zo_post, Int.toNat_natCast]
          first | (rw [if_pos (by omega)]) | (rw [if_neg (by omega), if_pos (by omega)]) | (rw [if_neg (by omega), if_neg (by omega), if_pos (by omega)]) | (rw [if_neg (by omega), if_neg (by omega), if_neg (by omega), if_pos (by omega)]) | (rw [if_neg (by omega), if_neg (by omega), if_neg (by omega), if_neg (by omega), if_pos (by omega)])
        rw [e]
        exact ⟨rfl, hS, rfl, (fun _ => ⟨rfl, rfl, rfl⟩), (fun h => absurd rfl h), (fun j h6 h7 h8 h9 => by simp [am_up, h6, h7, h8, h9]), (fun i h1 h2 => by funext j; simp [am_up, h1, h2])⟩
    · have h2 : ¬ (0 ≤ zb ∧ zb < ((zn S 0 : Nat) : Int)) := h2
      refine az_to 3 (pc2 := 23) (lv2 := [some (az_r 34), some (az_i (((t : Nat) : Int))), some (az_i (zb)), none, none]) (st2 := [az_i (1), az_i (1), az_r 34]) (s2 := s) rfl ?_
      refine az_clv (v := some (az_i (1))) (t := am_up s 34 6 (1)) (m2 := am_m_X10_isThrown) (as := [az_r 34, az_i (1), az_i (1)]) (rest := []) 26 rfl rfl ⟨rfl, rfl⟩ (by omega) (zs_X10_isThrown_t (s := s) (v := 1) (by omega) ) ?_
      refine az_to 0 (pc2 := 26) (lv2 := [some (az_r 34), some (az_i (((t : Nat) : Int))), some (az_i (zb)), none, none]) (st2 := [az_i (1)]) (s2 := am_up s 34 6 (1)) rfl ?_
      refine az_ifc 31 29 rfl (by decide) ⟨by decide, by decide⟩ (fun h => absurd h (by unfold az_cnd; decide)) (fun _ => ?_)
      refine az_to 1 (pc2 := 30) (lv2 := [some (az_r 34), some (az_i (((t : Nat) : Int))), some (az_i (zb)), none, none]) (st2 := [az_i (0)]) (s2 := am_up s 34 6 (1)) rfl ?_
      refine az_retI rfl rfl ?_
      have e : zo_post S ((t : Nat) : Int) zb = (1, 0, 0, S) := by
        simp only [zo_post, Int.toNat_natCast]
        first | (rw [if_pos (by omega)]) | (rw [if_neg (by omega), if_pos (by omega)]) | (rw [if_neg (by omega), if_neg (by omega), if_pos (by omega)]) | (rw [if_neg (by omega), if_neg (by omega), if_neg (by omega), if_pos (by omega)]) | (rw [if_neg (by omega), if_neg (by omega), if_neg (by omega), if_neg (by omega), if_pos (by omega)])
      rw [e]
      exact ⟨rfl, hS, rfl, (fun h => absurd (show (1 : Nat) = 3 from h) (by decide)), (fun _ => ⟨rfl, rfl, rfl⟩), (fun j h6 h7 h8 h9 => by simp [am_up, h6, h7, h8, h9]), (fun i h1 h2 => by funext j; simp [am_up, h1, h2])⟩
set_option maxRecDepth 100000 in
set_option maxHeartbeats 800000 in
theorem zs_X10_leaves {d : Nat} {s : az_S} (hd : 3 ≤ d) {S : zR} {h : Nat} (hS : s 35 = S) (hI : zInv S h) (hh : h ≤ 10000) {zt : Int} (h_zt : az_in zt) : az_R d am_m_X10_leaves 0 (az_ini (am_mL am_m_X10_leaves) [az_r 34, az_i (zt)]) [] (s) (zMq s (zo_leave S zt) 2) := by
  have hz := zI_h hI hh
  have hs0 : s 35 0 = ((zn S 0 : Nat) : Int) := by rw [hS, hz.2.1.1]
  have hs1 : s 35 1 = ((zn S 1 : Nat) : Int) := by rw [hS, hz.2.1.2.1]
  have hs2 : s 35 2 = ((zn S 2 : Nat) : Int) := by rw [hS, hz.2.1.2.2]
  have hs3 : s 35 3 = S 3 := by rw [hS]
  have hs5 : s 35 5 = S 5 := by rw [hS]
  refine az_to 0 (pc2 := 0) (lv2 := [some (az_r 34), some (az_i (zt)), none]) (st2 := []) (s2 := s) rfl ?_
  refine az_to 3 (pc2 := 3) (lv2 := [some (az_r 34), some (az_i (zt)), none]) (st2 := [az_i (zt), az_r 34, az_r 34]) (s2 := s) rfl ?_
  refine az_clv (v := some (az_i (az_b (0 ≤ zt ∧ zt < ((zn S 1 : Nat) : Int))))) (t := s) (m2 := am_m_X10_isTroll) (as := [az_r 34, az_i (zt)]) (rest := [az_r 34]) 6 rfl rfl ⟨rfl, rfl⟩ (by omega) (zs_X10_isTroll (s := s) (z := zt) (by omega) hS hI hh (by first | assumption | exact ⟨by omega, by omega⟩)) ?_
  refine az_to 0 (pc2 := 6) (lv2 := [some (az_r 34), some (az_i (zt)), none]) (st2 := [az_i (az_b (0 ≤ zt ∧ zt < ((zn S 1 : Nat) : Int))), az_r 34]) (s2 := s) rfl ?_
  refine az_ifbn 13 9 rfl (by decide) (fun h1 => ?_) (fun h1 => ?_)
  · have h1 : 0 ≤ zt ∧ zt < ((zn S 1 : Nat) : Int) := h1
    obtain ⟨t, rfl⟩ : ∃ n0 : Nat, zt = n0 := ⟨zt.toNat, by omega⟩
    have hzt := zI_t hI hh (t := t) (by omega)
    have hzu := hI.2.2.2.2.2.1 t (by omega)
    refine az_to 0 (pc2 := 13) (lv2 := [some (az_r 34), some (az_i (((t : Nat) : Int))), none]) (st2 := [az_r 34]) (s2 := s) (rfl) ?_
    refine az_to 2 (pc2 := 15) (lv2 := [some (az_r 34), some (az_i (((t : Nat) : Int))), none]) (st2 := [az_i (1), az_i (0), az_r 34]) (s2 := s) rfl ?_
    refine az_clv (v := some (az_i (0))) (t := am_up s 34 6 (0)) (m2 := am_m_X10_isThrown) (as := [az_r 34, az_i (0), az_i (1)]) (rest := []) 18 rfl rfl ⟨rfl, rfl⟩ (by omega) (zs_X10_isThrown_f (s := s) (v := 1) (by omega) ) ?_
    refine az_to 0 (pc2 := 18) (lv2 := [some (az_r 34), some (az_i (((t : Nat) : Int))), none]) (st2 := [az_i (0)]) (s2 := am_up s 34 6 (0)) rfl ?_
    refine az_ifc 23 21 rfl (by decide) ⟨by decide, by decide⟩ (fun _ => ?_) (fun h => absurd (show az_cnd _ _ _ by unfold az_cnd; decide) h)
    refine az_to 3 (pc2 := 26) (lv2 := [some (az_r 34), some (az_i (((t : Nat) : Int))), none]) (st2 := [az_i (0), az_i (((t : Nat) : Int)), az_r 34]) (s2 := am_up s 34 6 (0)) rfl ?_
    refine az_clv (v := some (az_i (zT S t 0))) (t := am_up s 34 6 (0)) (m2 := am_m_X10_ofTroll) (as := [az_r 34, az_i (((t : Nat) : Int)), az_i (0)]) (rest := []) 29 rfl rfl ⟨rfl, rfl⟩ (by omega) (zs_X10_ofTroll (s := am_up s 34 6 (0)) (t := t) (k := 0) (by omega) hS (by omega) (by omega)) ?_
    refine az_to 0 (pc2 := 29) (lv2 := [some (az_r 34), some (az_i (((t : Nat) : Int))), none]) (st2 := [az_i (zT S t 0)]) (s2 := am_up s 34 6 (0)) rfl ?_
    refine az_to 3 (pc2 := 32) (lv2 := [some (az_r 34), some (az_i (((t : Nat) : Int))), some (az_i (zT S t 0))]) (st2 := [az_i (zT S t 0), az_r 34]) (s2 := am_up s 34 6 (0)) rfl ?_
    refine az_ifc 39 35 rfl (by decide) (by first | assumption | exact ⟨by omega, by omega⟩) (fun h2 => ?_) (fun h2 => ?_)
    · have h2 : 0 ≤ zT S t 0 := h2
      obtain ⟨a, ha⟩ : ∃ n0 : Nat, zT S t 0 = n0 := ⟨(zT S t 0).toNat, by omega⟩
      have hza := zI_b hI hh (b := a) (by omega)
      refine az_to 0 (pc2 := 39) (lv2 := [some (az_r 34), some (az_i (((t : Nat) : Int))), some (az_i (((a : Nat) : Int)))]) (st2 := [az_r 34]) (s2 := am_up s 34 6 (0)) (by rw [ha]; rfl) ?_
      refine az_to 3 (pc2 := 43) (lv2 := [some (az_r 34), some (az_i (((t : Nat) : Int))), some (az_i (((a : Nat) : Int)))]) (st2 := [az_i (((t : Nat) : Int)), az_i (9), az_i (0), az_r 34]) (s2 := am_up s 34 6 (0)) rfl ?_
      refine az_clv (v := some (az_i (0))) (t := am_up s 34 6 (0)) (m2 := am_m_X10_isRefused) (as := [az_r 34, az_i (0), az_i (9), az_i (((t : Nat) : Int))]) (rest := []) 46 rfl rfl ⟨rfl, rfl⟩ (by omega) (zs_X10_isRefused_f (s := am_up s 34 6 (0)) (v := 9) (w := (((t : Nat) : Int))) (by omega) ) ?_
      refine az_to 0 (pc2 := 46) (lv2 := [some (az_r 34), some (az_i (((t : Nat) : Int))), some (az_i (((a : Nat) : Int)))]) (st2 := [az_i (0)]) (s2 := am_up s 34 6 (0)) rfl ?_
      refine az_ifc 57 49 rfl (by decide) ⟨by decide, by decide⟩ (fun h => absurd h (by unfold az_cnd; decide)) (fun _ => ?_)
      refine az_to 2 (pc2 := 51) (lv2 := [some (az_r 34), some (az_i (((t : Nat) : Int))), some (az_i (((a : Nat) : Int)))]) (st2 := [az_i (((a : Nat) : Int)), az_r 34]) (s2 := am_up s 34 6 (0)) rfl ?_
      by_cases h3 : 0 ≤ zB S a 5
      · skip
        refine az_clv (v := some (az_i (1))) (t := am_up (am_up (am_up (am_up (am_up s 34 6 (0)) 34 7 (10)) 34 8 (zB S a 5)) 34 9 (0)) 34 6 (9)) (m2 := am_m_X10_isDisputed) (as := [az_r 34, az_i (((a : Nat) : Int))]) (rest := []) 54 rfl rfl ⟨rfl, rfl⟩ (by omega) (zs_X10_isDisputed_t (s := am_up s 34 6 (0)) (b := a) (by omega) hS hI hh (by omega) (by first | assumption | omega)) ?_
        refine az_to 0 (pc2 := 54) (lv2 := [some (az_r 34), some (az_i (((t : Nat) : Int))), some (az_i (((a : Nat) : Int)))]) (st2 := [az_i (1)]) (s2 := am_up (am_up (am_up (am_up (am_up s 34 6 (0)) 34 7 (10)) 34 8 (zB S a 5)) 34 9 (0)) 34 6 (9)) rfl ?_
        refine az_ifc 59 57 rfl (by decide) ⟨by decide, by decide⟩ (fun h => absurd h (by unfold az_cnd; decide)) (fun _ => ?_)
        refine az_to 1 (pc2 := 58) (lv2 := [some (az_r 34), some (az_i (((t : Nat) : Int))), some (az_i (((a : Nat) : Int)))]) (st2 := [az_i (0)]) (s2 := am_up (am_up (am_up (am_up (am_up s 34 6 (0)) 34 7 (10)) 34 8 (zB S a 5)) 34 9 (0)) 34 6 (9)) rfl ?_
        refine az_retI rfl rfl ?_
        have e : zo_leave S ((t : Nat) : Int) = (3, 10, zB S a 5, S) := by
          simp only [zo_leave, Int.toNat_natCast, ha]
          first | (rw [if_pos (by omega)]) | (rw [if_neg (by omega), if_pos (by omega)]) | (rw [if_neg (by omega), if_neg (by omega), if_pos (by omega)]) | (rw [if_neg (by omega), if_neg (by omega), if_neg (by omega), if_pos (by omega)]) | (rw [if_neg (by omega), if_neg (by omega), if_neg (by omega), if_neg (by omega), if_pos (by omega)])
        rw [e]
        exact ⟨rfl, hS, rfl, (fun _ => ⟨rfl, rfl, rfl⟩), (fun h => absurd rfl h), (fun j h6 h7 h8 h9 => by simp [am_up, h6, h7, h8, h9]), (fun i h1 h2 => by funext j; simp [am_up, h1, h2])⟩
      · skip
        refine az_clv (v := some (az_i (0))) (t := am_up s 34 6 (0)) (m2 := am_m_X10_isDisputed) (as := [az_r 34, az_i (((a : Nat) : Int))]) (rest := []) 54 rfl rfl ⟨rfl, rfl⟩ (by omega) (zs_X10_isDisputed_f (s := am_up s 34 6 (0)) (b := a) (by omega) hS hI hh (by omega) (by first | assumption | omega)) ?_
        refine az_to 0 (pc2 := 54) (lv2 := [some (az_r 34), some (az_i (((t : Nat) : Int))), some (az_i (((a : Nat) : Int)))]) (st2 := [az_i (0)]) (s2 := am_up s 34 6 (0)) rfl ?_
        refine az_ifc 59 57 rfl (by decide) ⟨by decide, by decide⟩ (fun _ => ?_) (fun h => absurd (show az_cnd _ _ _ by unfold az_cnd; decide) h)
        refine az_to 4 (pc2 := 63) (lv2 := [some (az_r 34), some (az_i (((t : Nat) : Int))), some (az_i (((a : Nat) : Int)))]) (st2 := [az_i (-1), az_i (0), az_i (((t : Nat) : Int)), az_r 34]) (s2 := am_up s 34 6 (0)) rfl ?_
        refine az_clv (v := none) (t := am_up (am_up s 34 6 (0)) 35 (126 + 4 * t + 0) ((-1))) (m2 := am_m_X10_setsTroll) (as := [az_r 34, az_i (((t : Nat) : Int)), az_i (0), az_i (-1)]) (rest := []) 66 rfl rfl ⟨rfl, rfl⟩ (by omega) (zs_X10_setsTroll (s := am_up s 34 6 (0)) (t := t) (k := 0) (v := (-1)) (by omega) (by omega) (by omega)) ?_
        refine az_to 0 (pc2 := 66) (lv2 := [some (az_r 34), some (az_i (((t : Nat) : Int))), some (az_i (((a : Nat) : Int)))]) (st2 := []) (s2 := am_up (am_up s 34 6 (0)) 35 (126 + 4 * t + 0) ((-1))) rfl ?_
        refine az_to 1 (pc2 := 67) (lv2 := [some (az_r 34), some (az_i (((t : Nat) : Int))), some (az_i (((a : Nat) : Int)))]) (st2 := [az_i (((a : Nat) : Int))]) (s2 := am_up (am_up s 34 6 (0)) 35 (126 + 4 * t + 0) ((-1))) rfl ?_
        refine az_retI rfl rfl ?_
        have e : zo_leave S ((t : Nat) : Int) = (0, ((a : Nat) : Int), 0, zup S (126 + 4 * t + 0) (-1)) := by
          simp only [zo_leave, Int.toNat_natCast, ha]
          rw [if_neg (by omega), if_neg (by omega), if_neg (by omega)]
        rw [e]
        exact ⟨rfl, (by rw [← hS]; rfl), rfl, (fun h => absurd (show (0 : Nat) = 3 from h) (by decide)), (fun _ => ⟨rfl, rfl, rfl⟩), (fun j h6 h7 h8 h9 => by simp [am_up, h6, h7, h8, h9]), (fun i h1 h2 => by funext j; simp [am_up, h1, h2])⟩
    · have h2 : ¬ (0 ≤ zT S t 0) := h2
      refine az_to 4 (pc2 := 43) (lv2 := [some (az_r 34), some (az_i (((t : Nat) : Int))), some (az_i (zT S t 0))]) (st2 := [az_i (((t : Nat) : Int)), az_i (9), az_i (1), az_r 34]) (s2 := am_up s 34 6 (0)) rfl ?_
      refine az_clv (v := some (az_i (1))) (t := am_up (am_up (am_up (am_up (am_up s 34 6 (0)) 34 7 (9)) 34 8 ((((t : Nat) : Int)))) 34 9 (0)) 34 6 (9)) (m2 := am_m_X10_isRefused) (as := [az_r 34, az_i (1), az_i (9), az_i (((t : Nat) : Int))]) (rest := []) 46 rfl rfl ⟨rfl, rfl⟩ (by omega) (zs_X10_isRefused_t (s := am_up s 34 6 (0)) (v := 9) (w := (((t : Nat) : Int))) (by omega) ) ?_
      refine az_to 0 (pc2 := 46) (lv2 := [some (az_r 34), some (az_i (((t : Nat) : Int))), some (az_i (zT S t 0))]) (st2 := [az_i (1)]) (s2 := am_up (am_up (am_up (am_up (am_up s 34 6 (0)) 34 7 (9)) 34 8 ((((t : Nat) : Int)))) 34 9 (0)) 34 6 (9)) rfl ?_
      refine az_ifc 57 49 rfl (by decide) ⟨by decide, by decide⟩ (fun _ => ?_) (fun h => absurd (show az_cnd _ _ _ by unfold az_cnd; decide) h)
      refine az_to 1 (pc2 := 58) (lv2 := [some (az_r 34), some (az_i (((t : Nat) : Int))), some (az_i (zT S t 0))]) (st2 := [az_i (0)]) (s2 := am_up (am_up (am_up (am_up (am_up s 34 6 (0)) 34 7 (9)) 34 8 ((((t : Nat) : Int)))) 34 9 (0)) 34 6 (9)) rfl ?_
      refine az_retI rfl rfl ?_
      have e : zo_leave S ((t : Nat) : Int) = (3, 9, (((t : Nat) : Int)), S) := by
        simp only [zo_leave, Int.toNat_natCast]
        first | (rw [if_pos (by omega)]) | (rw [if_neg (by omega), if_pos (by omega)]) | (rw [if_neg (by omega), if_neg (by omega), if_pos (by omega)]) | (rw [if_neg (by omega), if_neg (by omega), if_neg (by omega), if_pos (by omega)]) | (rw [if_neg (by omega), if_neg (by omega), if_neg (by omega), if_neg (by omega), if_pos (by omega)])
      rw [e]
      exact ⟨rfl, hS, rfl, (fun _ => ⟨rfl, rfl, rfl⟩), (fun h => absurd rfl h), (fun j h6 h7 h8 h9 => by simp [am_up, h6, h7, h8, h9]), (fun i h1 h2 => by funext j; simp [am_up, h1, h2])⟩
  · have h1 : ¬ (0 ≤ zt ∧ zt < ((zn S 1 : Nat) : Int)) := h1
    refine az_to 3 (pc2 := 15) (lv2 := [some (az_r 34), some (az_i (zt)), none]) (st2 := [az_i (1), az_i (1), az_r 34]) (s2 := s) rfl ?_
    refine az_clv (v := some (az_i (1))) (t := am_up s 34 6 (1)) (m2 := am_m_X10_isThrown) (as := [az_r 34, az_i (1), az_i (1)]) (rest := []) 18 rfl rfl ⟨rfl, rfl⟩ (by omega) (zs_X10_isThrown_t (s := s) (v := 1) (by omega) ) ?_
    refine az_to 0 (pc2 := 18) (lv2 := [some (az_r 34), some (az_i (zt)), none]) (st2 := [az_i (1)]) (s2 := am_up s 34 6 (1)) rfl ?_
    refine az_ifc 23 21 rfl (by decide) ⟨by decide, by decide⟩ (fun h => absurd h (by unfold az_cnd; decide)) (fun _ => ?_)
    refine az_to 1 (pc2 := 22) (lv2 := [some (az_r 34), some (az_i (zt)), none]) (st2 := [az_i (0)]) (s2 := am_up s 34 6 (1)) rfl ?_
    refine az_retI rfl rfl ?_
    have e : zo_leave S zt = (1, 0, 0, S) := by
      simp only [zo_leave, Int.toNat_natCast]
      first | (rw [if_pos (by omega)]) | (rw [if_neg (by omega), if_pos (by omega)]) | (rw [if_neg (by omega), if_neg (by omega), if_pos (by omega)]) | (rw [if_neg (by omega), if_neg (by omega), if_neg (by omega), if_pos (by omega)]) | (rw [if_neg (by omega), if_neg (by omega), if_neg (by omega), if_neg (by omega), if_pos (by omega)])
    rw [e]
    exact ⟨rfl, hS, rfl, (fun h => absurd (show (1 : Nat) = 3 from h) (by decide)), (fun _ => ⟨rfl, rfl, rfl⟩), (fun j h6 h7 h8 h9 => by simp [am_up, h6, h7, h8, h9]), (fun i h1 h2 => by funext j; simp [am_up, h1, h2])⟩
set_option maxRecDepth 100000 in
set_option maxHeartbeats 800000 in
theorem zs_X10_riddles {d : Nat} {s : az_S} (hd : 3 ≤ d) {S : zR} {h : Nat} (hS : s 35 = S) (hI : zInv S h) (hh : h ≤ 10000) {zt : Int} {zd : Int} {zn0 : Int} (h_zt : az_in zt) (h_zd : az_in zd) (h_zn0 : az_in zn0) : az_R d am_m_X10_riddles 0 (az_ini (am_mL am_m_X10_riddles) [az_r 34, az_i (zt), az_i (zd), az_i (zn0)]) [] (s) (zMq s (zo_riddle S zt zd zn0) 2) := by
  have hz := zI_h hI hh
  have hs0 : s 35 0 = ((zn S 0 : Nat) : Int) := by rw [hS, hz.2.1.1]
  have hs1 : s 35 1 = ((zn S 1 : Nat) : Int) := by rw [hS, hz.2.1.2.1]
  have hs2 : s 35 2 = ((zn S 2 : Nat) : Int) := by rw [hS, hz.2.1.2.2]
  have hs3 : s 35 3 = S 3 := by rw [hS]
  have hs5 : s 35 5 = S 5 := by rw [hS]
  refine az_to 0 (pc2 := 0) (lv2 := [some (az_r 34), some (az_i (zt)), some (az_i (zd)), some (az_i (zn0))]) (st2 := []) (s2 := s) rfl ?_
  refine az_to 3 (pc2 := 3) (lv2 := [some (az_r 34), some (az_i (zt)), some (az_i (zd)), some (az_i (zn0))]) (st2 := [az_i (zt), az_r 34, az_r 34]) (s2 := s) rfl ?_
  refine az_clv (v := some (az_i (az_b (0 ≤ zt ∧ zt < ((zn S 1 : Nat) : Int))))) (t := s) (m2 := am_m_X10_isTroll) (as := [az_r 34, az_i (zt)]) (rest := [az_r 34]) 6 rfl rfl ⟨rfl, rfl⟩ (by omega) (zs_X10_isTroll (s := s) (z := zt) (by omega) hS hI hh (by first | assumption | exact ⟨by omega, by omega⟩)) ?_
  refine az_to 0 (pc2 := 6) (lv2 := [some (az_r 34), some (az_i (zt)), some (az_i (zd)), some (az_i (zn0))]) (st2 := [az_i (az_b (0 ≤ zt ∧ zt < ((zn S 1 : Nat) : Int))), az_r 34]) (s2 := s) rfl ?_
  refine az_ifbn 13 9 rfl (by decide) (fun h1 => ?_) (fun h1 => ?_)
  · have h1 : 0 ≤ zt ∧ zt < ((zn S 1 : Nat) : Int) := h1
    obtain ⟨t, rfl⟩ : ∃ n0 : Nat, zt = n0 := ⟨zt.toNat, by omega⟩
    have hzt := zI_t hI hh (t := t) (by omega)
    have hzu := hI.2.2.2.2.2.1 t (by omega)
    refine az_to 0 (pc2 := 13) (lv2 := [some (az_r 34), some (az_i (((t : Nat) : Int))), some (az_i (zd)), some (az_i (zn0))]) (st2 := [az_r 34]) (s2 := s) (rfl) ?_
    refine az_to 2 (pc2 := 15) (lv2 := [some (az_r 34), some (az_i (((t : Nat) : Int))), some (az_i (zd)), some (az_i (zn0))]) (st2 := [az_i (1), az_i (0), az_r 34]) (s2 := s) rfl ?_
    refine az_clv (v := some (az_i (0))) (t := am_up s 34 6 (0)) (m2 := am_m_X10_isThrown) (as := [az_r 34, az_i (0), az_i (1)]) (rest := []) 18 rfl rfl ⟨rfl, rfl⟩ (by omega) (zs_X10_isThrown_f (s := s) (v := 1) (by omega) ) ?_
    refine az_to 0 (pc2 := 18) (lv2 := [some (az_r 34), some (az_i (((t : Nat) : Int))), some (az_i (zd)), some (az_i (zn0))]) (st2 := [az_i (0)]) (s2 := am_up s 34 6 (0)) rfl ?_
    refine az_ifc 54 21 rfl (by decide) ⟨by decide, by decide⟩ (fun h => absurd h (by unfold az_cnd; decide)) (fun _ => ?_)
    refine az_to 4 (pc2 := 26) (lv2 := [some (az_r 34), some (az_i (((t : Nat) : Int))), some (az_i (zd)), some (az_i (zn0))]) (st2 := [az_i (9), az_i (1), az_i (zd), az_r 34]) (s2 := am_up s 34 6 (0)) rfl ?_
    refine az_clv (v := some (az_i (az_b (1 ≤ zd ∧ zd ≤ 9)))) (t := am_up s 34 6 (0)) (m2 := am_m_X10_isIn) (as := [az_i (zd), az_i (1), az_i (9)]) (rest := [az_r 34]) 29 rfl rfl ⟨rfl, rfl⟩ (by omega) (zs_X10_isIn (s := am_up s 34 6 (0)) (z := zd) (lo := 1) (hi := 9) (by omega) (by first | assumption | exact ⟨by omega, by omega⟩) ⟨by decide, by decide⟩ ⟨by decide, by decide⟩) ?_
    refine az_to 0 (pc2 := 29) (lv2 := [some (az_r 34), some (az_i (((t : Nat) : Int))), some (az_i (zd)), some (az_i (zn0))]) (st2 := [az_i (az_b (1 ≤ zd ∧ zd ≤ 9)), az_r 34]) (s2 := am_up s 34 6 (0)) rfl ?_
    refine az_ifbe 42 32 rfl (by decide) (fun h2 => ?_) (fun h2 => ?_)
    · have h2 : ¬ (1 ≤ zd ∧ zd ≤ 9) := h2
      refine az_to 3 (pc2 := 48) (lv2 := [some (az_r 34), some (az_i (((t : Nat) : Int))), some (az_i (zd)), some (az_i (zn0))]) (st2 := [az_i (2), az_i (1), az_r 34]) (s2 := am_up s 34 6 (0)) rfl ?_
      refine az_clv (v := some (az_i (1))) (t := am_up (am_up s 34 6 (0)) 34 6 (2)) (m2 := am_m_X10_isThrown) (as := [az_r 34, az_i (1), az_i (2)]) (rest := []) 51 rfl rfl ⟨rfl, rfl⟩ (by omega) (zs_X10_isThrown_t (s := am_up s 34 6 (0)) (v := 2) (by omega) ) ?_
      refine az_to 0 (pc2 := 51) (lv2 := [some (az_r 34), some (az_i (((t : Nat) : Int))), some (az_i (zd)), some (az_i (zn0))]) (st2 := [az_i (1)]) (s2 := am_up (am_up s 34 6 (0)) 34 6 (2)) rfl ?_
      refine az_ifc 56 54 rfl (by decide) ⟨by decide, by decide⟩ (fun h => absurd h (by unfold az_cnd; decide)) (fun _ => ?_)
      refine az_to 1 (pc2 := 55) (lv2 := [some (az_r 34), some (az_i (((t : Nat) : Int))), some (az_i (zd)), some (az_i (zn0))]) (st2 := [az_i (0)]) (s2 := am_up (am_up s 34 6 (0)) 34 6 (2)) rfl ?_
      refine az_retI rfl rfl ?_
      have e : zo_riddle S ((t : Nat) : Int) zd zn0 = (2, 0, 0, S) := by
        simp only [zo_riddle, Int.toNat_natCast]
        first | (rw [if_pos (by omega)]) | (rw [if_neg (by omega), if_pos (by omega)]) | (rw [if_neg (by omega), if_neg (by omega), if_pos (by omega)]) | (rw [if_neg (by omega), if_neg (by omega), if_neg (by omega), if_pos (by omega)]) | (rw [if_neg (by omega), if_neg (by omega), if_neg (by omega), if_neg (by omega), if_pos (by omega)])
      rw [e]
      exact ⟨rfl, hS, rfl, (fun h => absurd (show (2 : Nat) = 3 from h) (by decide)), (fun _ => ⟨rfl, rfl, rfl⟩), (fun j h6 h7 h8 h9 => by simp [am_up, h6, h7, h8, h9]), (fun i h1 h2 => by funext j; simp [am_up, h1, h2])⟩
    · have h2 : 1 ≤ zd ∧ zd ≤ 9 := h2
      refine az_to 3 (pc2 := 36) (lv2 := [some (az_r 34), some (az_i (((t : Nat) : Int))), some (az_i (zd)), some (az_i (zn0))]) (st2 := [az_i (48), az_i (1), az_i (zn0), az_r 34]) (s2 := am_up s 34 6 (0)) rfl ?_
      refine az_clv (v := some (az_i (az_b (1 ≤ zn0 ∧ zn0 ≤ 48)))) (t := am_up s 34 6 (0)) (m2 := am_m_X10_isIn) (as := [az_i (zn0), az_i (1), az_i (48)]) (rest := [az_r 34]) 39 rfl rfl ⟨rfl, rfl⟩ (by omega) (zs_X10_isIn (s := am_up s 34 6 (0)) (z := zn0) (lo := 1) (hi := 48) (by omega) (by first | assumption | exact ⟨by omega, by omega⟩) ⟨by decide, by decide⟩ ⟨by decide, by decide⟩) ?_
      refine az_to 0 (pc2 := 39) (lv2 := [some (az_r 34), some (az_i (((t : Nat) : Int))), some (az_i (zd)), some (az_i (zn0))]) (st2 := [az_i (az_b (1 ≤ zn0 ∧ zn0 ≤ 48)), az_r 34]) (s2 := am_up s 34 6 (0)) rfl ?_
      refine az_ifbn 46 42 rfl (by decide) (fun h3 => ?_) (fun h3 => ?_)
      · have h3 : 1 ≤ zn0 ∧ zn0 ≤ 48 := h3
        refine az_to 2 (pc2 := 48) (lv2 := [some (az_r 34), some (az_i (((t : Nat) : Int))), some (az_i (zd)), some (az_i (zn0))]) (st2 := [az_i (2), az_i (0), az_r 34]) (s2 := am_up s 34 6 (0)) rfl ?_
        refine az_clv (v := some (az_i (0))) (t := am_up (am_up s 34 6 (0)) 34 6 (0)) (m2 := am_m_X10_isThrown) (as := [az_r 34, az_i (0), az_i (2)]) (rest := []) 51 rfl rfl ⟨rfl, rfl⟩ (by omega) (zs_X10_isThrown_f (s := am_up s 34 6 (0)) (v := 2) (by omega) ) ?_
        refine az_to 0 (pc2 := 51) (lv2 := [some (az_r 34), some (az_i (((t : Nat) : Int))), some (az_i (zd)), some (az_i (zn0))]) (st2 := [az_i (0)]) (s2 := am_up (am_up s 34 6 (0)) 34 6 (0)) rfl ?_
        refine az_ifc 56 54 rfl (by decide) ⟨by decide, by decide⟩ (fun _ => ?_) (fun h => absurd (show az_cnd _ _ _ by unfold az_cnd; decide) h)
        refine az_to 3 (pc2 := 59) (lv2 := [some (az_r 34), some (az_i (((t : Nat) : Int))), some (az_i (zd)), some (az_i (zn0))]) (st2 := [az_i (((t : Nat) : Int)), az_r 34, az_r 34]) (s2 := am_up (am_up s 34 6 (0)) 34 6 (0)) rfl ?_
        refine az_clv (v := some (az_i (az_b (S 3 < zT S t 3)))) (t := am_up (am_up s 34 6 (0)) 34 6 (0)) (m2 := am_m_X10_holds) (as := [az_r 34, az_i (((t : Nat) : Int))]) (rest := [az_r 34]) 62 rfl rfl ⟨rfl, rfl⟩ (by omega) (zs_X10_holds (s := am_up (am_up s 34 6 (0)) 34 6 (0)) (t := t) (by omega) hS hI hh (by omega)) ?_
        refine az_to 0 (pc2 := 62) (lv2 := [some (az_r 34), some (az_i (((t : Nat) : Int))), some (az_i (zd)), some (az_i (zn0))]) (st2 := [az_i (az_b (S 3 < zT S t 3)), az_r 34]) (s2 := am_up (am_up s 34 6 (0)) 34 6 (0)) rfl ?_
        refine az_to 4 (pc2 := 66) (lv2 := [some (az_r 34), some (az_i (((t : Nat) : Int))), some (az_i (zd)), some (az_i (zn0))]) (st2 := [az_i (3), az_i (((t : Nat) : Int)), az_r 34, az_i (5), az_i (az_b (S 3 < zT S t 3)), az_r 34]) (s2 := am_up (am_up s 34 6 (0)) 34 6 (0)) rfl ?_
        refine az_clv (v := some (az_i (zT S t 3))) (t := am_up (am_up s 34 6 (0)) 34 6 (0)) (m2 := am_m_X10_ofTroll) (as := [az_r 34, az_i (((t : Nat) : Int)), az_i (3)]) (rest := [az_i (5), az_i (az_b (S 3 < zT S t 3)), az_r 34]) 69 rfl rfl ⟨rfl, rfl⟩ (by omega) (zs_X10_ofTroll (s := am_up (am_up s 34 6 (0)) 34 6 (0)) (t := t) (k := 3) (by omega) hS (by omega) (by omega)) ?_
        refine az_to 0 (pc2 := 69) (lv2 := [some (az_r 34), some (az_i (((t : Nat) : Int))), some (az_i (zd)), some (az_i (zn0))]) (st2 := [az_i (zT S t 3), az_i (5), az_i (az_b (S 3 < zT S t 3)), az_r 34]) (s2 := am_up (am_up s 34 6 (0)) 34 6 (0)) rfl ?_
        refine az_to 3 (pc2 := 74) (lv2 := [some (az_r 34), some (az_i (((t : Nat) : Int))), some (az_i (zd)), some (az_i (zn0))]) (st2 := [az_i (3), az_r 35, az_i (zT S t 3), az_i (5), az_i (az_b (S 3 < zT S t 3)), az_r 34]) (s2 := am_up (am_up s 34 6 (0)) 34 6 (0)) rfl ?_
        refine az_ld_i 75 rfl rfl (by constructor <;> omega) ⟨by decide, rfl⟩ ?_
        refine az_to 0 (pc2 := 75) (lv2 := [some (az_r 34), some (az_i (((t : Nat) : Int))), some (az_i (zd)), some (az_i (zn0))]) (st2 := [az_i ((am_up (am_up s 34 6 (0)) 34 6 (0)) 35 3), az_i (zT S t 3), az_i (5), az_i (az_b (S 3 < zT S t 3)), az_r 34]) (s2 := am_up (am_up s 34 6 (0)) 34 6 (0)) rfl ?_
        refine az_to 0 (pc2 := 75) (lv2 := [some (az_r 34), some (az_i (((t : Nat) : Int))), some (az_i (zd)), some (az_i (zn0))]) (st2 := [az_i (S 3), az_i (zT S t 3), az_i (5), az_i (az_b (S 3 < zT S t 3)), az_r 34]) (s2 := am_up (am_up s 34 6 (0)) 34 6 (0)) (by rw [show (am_up (am_up s 34 6 (0)) 34 6 (0)) 35 3 = S 3 from hs3]; rfl) ?_
        refine az_to 1 (pc2 := 76) (lv2 := [some (az_r 34), some (az_i (((t : Nat) : Int))), some (az_i (zd)), some (az_i (zn0))]) (st2 := [az_i ((zT S t 3 - S 3)), az_i (5), az_i (az_b (S 3 < zT S t 3)), az_r 34]) (s2 := am_up (am_up s 34 6 (0)) 34 6 (0)) rfl ?_
        by_cases h4 : S 3 < zT S t 3
        · refine az_to 0 (pc2 := 76) (lv2 := [some (az_r 34), some (az_i (((t : Nat) : Int))), some (az_i (zd)), some (az_i (zn0))]) (st2 := [az_i ((zT S t 3 - S 3)), az_i (5), az_i (1), az_r 34]) (s2 := am_up (am_up s 34 6 (0)) 34 6 (0)) (by rw [az_b1 h4]; rfl) ?_
          refine az_clv (v := some (az_i (1))) (t := am_up (am_up (am_up (am_up (am_up (am_up s 34 6 (0)) 34 6 (0)) 34 7 (5)) 34 8 (((zT S t 3 - S 3)))) 34 9 (0)) 34 6 (9)) (m2 := am_m_X10_isRefused) (as := [az_r 34, az_i (1), az_i (5), az_i ((zT S t 3 - S 3))]) (rest := []) 79 rfl rfl ⟨rfl, rfl⟩ (by omega) (zs_X10_isRefused_t (s := am_up (am_up s 34 6 (0)) 34 6 (0)) (v := 5) (w := ((zT S t 3 - S 3))) (by omega) ) ?_
          refine az_to 0 (pc2 := 79) (lv2 := [some (az_r 34), some (az_i (((t : Nat) : Int))), some (az_i (zd)), some (az_i (zn0))]) (st2 := [az_i (1)]) (s2 := am_up (am_up (am_up (am_up (am_up (am_up s 34 6 (0)) 34 6 (0)) 34 7 (5)) 34 8 (((zT S t 3 - S 3)))) 34 9 (0)) 34 6 (9)) rfl ?_
          refine az_ifc 84 82 rfl (by decide) ⟨by decide, by decide⟩ (fun h => absurd h (by unfold az_cnd; decide)) (fun _ => ?_)
          refine az_to 1 (pc2 := 83) (lv2 := [some (az_r 34), some (az_i (((t : Nat) : Int))), some (az_i (zd)), some (az_i (zn0))]) (st2 := [az_i (0)]) (s2 := am_up (am_up (am_up (am_up (am_up (am_up s 34 6 (0)) 34 6 (0)) 34 7 (5)) 34 8 (((zT S t 3 - S 3)))) 34 9 (0)) 34 6 (9)) rfl ?_
          refine az_retI rfl rfl ?_
          have e : zo_riddle S ((t : Nat) : Int) zd zn0 = (3, 5, ((zT S t 3 - S 3)), S) := by
            simp only [zo_riddle, Int.toNat_natCast]
            first | (rw [if_pos (by omega)]) | (rw [if_neg (by omega), if_pos (by omega)]) | (rw [if_neg (by omega), if_neg (by omega), if_pos (by omega)]) | (rw [if_neg (by omega), if_neg (by omega), if_neg (by omega), if_pos (by omega)]) | (rw [if_neg (by omega), if_neg (by omega), if_neg (by omega), if_neg (by omega), if_pos (by omega)])
          rw [e]
          exact ⟨rfl, hS, rfl, (fun _ => ⟨rfl, rfl, rfl⟩), (fun h => absurd rfl h), (fun j h6 h7 h8 h9 => by simp [am_up, h6, h7, h8, h9]), (fun i h1 h2 => by funext j; simp [am_up, h1, h2])⟩
        · refine az_to 0 (pc2 := 76) (lv2 := [some (az_r 34), some (az_i (((t : Nat) : Int))), some (az_i (zd)), some (az_i (zn0))]) (st2 := [az_i ((zT S t 3 - S 3)), az_i (5), az_i (0), az_r 34]) (s2 := am_up (am_up s 34 6 (0)) 34 6 (0)) (by rw [az_b0 h4]; rfl) ?_
          refine az_clv (v := some (az_i (0))) (t := am_up (am_up s 34 6 (0)) 34 6 (0)) (m2 := am_m_X10_isRefused) (as := [az_r 34, az_i (0), az_i (5), az_i ((zT S t 3 - S 3))]) (rest := []) 79 rfl rfl ⟨rfl, rfl⟩ (by omega) (zs_X10_isRefused_f (s := am_up (am_up s 34 6 (0)) 34 6 (0)) (v := 5) (w := ((zT S t 3 - S 3))) (by omega) ) ?_
          refine az_to 0 (pc2 := 79) (lv2 := [some (az_r 34), some (az_i (((t : Nat) : Int))), some (az_i (zd)), some (az_i (zn0))]) (st2 := [az_i (0)]) (s2 := am_up (am_up s 34 6 (0)) 34 6 (0)) rfl ?_
          refine az_ifc 84 82 rfl (by decide) ⟨by decide, by decide⟩ (fun _ => ?_) (fun h => absurd (show az_cnd _ _ _ by unfold az_cnd; decide) h)
          refine az_to 4 (pc2 := 88) (lv2 := [some (az_r 34), some (az_i (((t : Nat) : Int))), some (az_i (zd)), some (az_i (zn0))]) (st2 := [az_i (zd), az_i (2), az_i (((t : Nat) : Int)), az_r 34]) (s2 := am_up (am_up s 34 6 (0)) 34 6 (0)) rfl ?_
          refine az_clv (v := none) (t := am_up (am_up (am_up s 34 6 (0)) 34 6 (0)) 35 (126 + 4 * t + 2) (zd)) (m2 := am_m_X10_setsTroll) (as := [az_r 34, az_i (((t : Nat) : Int)), az_i (2), az_i (zd)]) (rest := []) 91 rfl rfl ⟨rfl, rfl⟩ (by omega) (zs_X10_setsTroll (s := am_up (am_up s 34 6 (0)) 34 6 (0)) (t := t) (k := 2) (v := zd) (by omega) (by omega) (by omega)) ?_
          refine az_to 0 (pc2 := 91) (lv2 := [some (az_r 34), some (az_i (((t : Nat) : Int))), some (az_i (zd)), some (az_i (zn0))]) (st2 := []) (s2 := am_up (am_up (am_up s 34 6 (0)) 34 6 (0)) 35 (126 + 4 * t + 2) (zd)) rfl ?_
          refine az_to 6 (pc2 := 99) (lv2 := [some (az_r 34), some (az_i (((t : Nat) : Int))), some (az_i (zd)), some (az_i (zn0))]) (st2 := [az_i (3), az_r 35, az_i (3), az_i (((t : Nat) : Int)), az_r 34]) (s2 := am_up (am_up (am_up s 34 6 (0)) 34 6 (0)) 35 (126 + 4 * t + 2) (zd)) rfl ?_
          refine az_ld_i 100 rfl rfl (by constructor <;> omega) ⟨by decide, rfl⟩ ?_
          refine az_to 0 (pc2 := 100) (lv2 := [some (az_r 34), some (az_i (((t : Nat) : Int))), some (az_i (zd)), some (az_i (zn0))]) (st2 := [az_i ((am_up (am_up (am_up s 34 6 (0)) 34 6 (0)) 35 (126 + 4 * t + 2) (zd)) 35 3), az_i (3), az_i (((t : Nat) : Int)), az_r 34]) (s2 := am_up (am_up (am_up s 34 6 (0)) 34 6 (0)) 35 (126 + 4 * t + 2) (zd)) rfl ?_
          refine az_to 0 (pc2 := 100) (lv2 := [some (az_r 34), some (az_i (((t : Nat) : Int))), some (az_i (zd)), some (az_i (zn0))]) (st2 := [az_i (S 3), az_i (3), az_i (((t : Nat) : Int)), az_r 34]) (s2 := am_up (am_up (am_up s 34 6 (0)) 34 6 (0)) 35 (126 + 4 * t + 2) (zd)) (by rw [show (am_up (am_up (am_up s 34 6 (0)) 34 6 (0)) 35 (126 + 4 * t + 2) (zd)) 35 3 = S 3 from (by show (zup (s 35) (126 + 4 * t + 2) (zd)) 3 = S 3; rw [zup_ne _ _ (by omega), hS])]; rfl) ?_
          refine az_to 2 (pc2 := 102) (lv2 := [some (az_r 34), some (az_i (((t : Nat) : Int))), some (az_i (zd)), some (az_i (zn0))]) (st2 := [az_i ((S 3 + zn0)), az_i (3), az_i (((t : Nat) : Int)), az_r 34]) (s2 := am_up (am_up (am_up s 34 6 (0)) 34 6 (0)) 35 (126 + 4 * t + 2) (zd)) rfl ?_
          refine az_clv (v := none) (t := am_up (am_up (am_up (am_up s 34 6 (0)) 34 6 (0)) 35 (126 + 4 * t + 2) (zd)) 35 (126 + 4 * t + 3) (((S 3 + zn0)))) (m2 := am_m_X10_setsTroll) (as := [az_r 34, az_i (((t : Nat) : Int)), az_i (3), az_i ((S 3 + zn0))]) (rest := []) 105 rfl rfl ⟨rfl, rfl⟩ (by omega) (zs_X10_setsTroll (s := am_up (am_up (am_up s 34 6 (0)) 34 6 (0)) 35 (126 + 4 * t + 2) (zd)) (t := t) (k := 3) (v := ((S 3 + zn0))) (by omega) (by omega) (by omega)) ?_
          refine az_to 0 (pc2 := 105) (lv2 := [some (az_r 34), some (az_i (((t : Nat) : Int))), some (az_i (zd)), some (az_i (zn0))]) (st2 := []) (s2 := am_up (am_up (am_up (am_up s 34 6 (0)) 34 6 (0)) 35 (126 + 4 * t + 2) (zd)) 35 (126 + 4 * t + 3) (((S 3 + zn0)))) rfl ?_
          refine az_to 3 (pc2 := 110) (lv2 := [some (az_r 34), some (az_i (((t : Nat) : Int))), some (az_i (zd)), some (az_i (zn0))]) (st2 := [az_i (3), az_r 35]) (s2 := am_up (am_up (am_up (am_up s 34 6 (0)) 34 6 (0)) 35 (126 + 4 * t + 2) (zd)) 35 (126 + 4 * t + 3) (((S 3 + zn0)))) rfl ?_
          refine az_ld_i 111 rfl rfl (by constructor <;> omega) ⟨by decide, rfl⟩ ?_
          refine az_to 0 (pc2 := 111) (lv2 := [some (az_r 34), some (az_i (((t : Nat) : Int))), some (az_i (zd)), some (az_i (zn0))]) (st2 := [az_i ((am_up (am_up (am_up (am_up s 34 6 (0)) 34 6 (0)) 35 (126 + 4 * t + 2) (zd)) 35 (126 + 4 * t + 3) (((S 3 + zn0)))) 35 3)]) (s2 := am_up (am_up (am_up (am_up s 34 6 (0)) 34 6 (0)) 35 (126 + 4 * t + 2) (zd)) 35 (126 + 4 * t + 3) (((S 3 + zn0)))) rfl ?_
          refine az_to 0 (pc2 := 111) (lv2 := [some (az_r 34), some (az_i (((t : Nat) : Int))), some (az_i (zd)), some (az_i (zn0))]) (st2 := [az_i (S 3)]) (s2 := am_up (am_up (am_up (am_up s 34 6 (0)) 34 6 (0)) 35 (126 + 4 * t + 2) (zd)) 35 (126 + 4 * t + 3) (((S 3 + zn0)))) (by rw [show (am_up (am_up (am_up (am_up s 34 6 (0)) 34 6 (0)) 35 (126 + 4 * t + 2) (zd)) 35 (126 + 4 * t + 3) (((S 3 + zn0)))) 35 3 = S 3 from (by show (zup (zup (s 35) (126 + 4 * t + 2) (zd)) (126 + 4 * t + 3) (S 3 + zn0)) 3 = S 3; rw [zup_ne _ _ (by omega), zup_ne _ _ (by omega), hS])]; rfl) ?_
          refine az_to 2 (pc2 := 113) (lv2 := [some (az_r 34), some (az_i (((t : Nat) : Int))), some (az_i (zd)), some (az_i (zn0))]) (st2 := [az_i ((S 3 + zn0))]) (s2 := am_up (am_up (am_up (am_up s 34 6 (0)) 34 6 (0)) 35 (126 + 4 * t + 2) (zd)) 35 (126 + 4 * t + 3) (((S 3 + zn0)))) rfl ?_
          refine az_retI rfl rfl ?_
          have e : zo_riddle S ((t : Nat) : Int) zd zn0 = (0, (S 3 + zn0), 0, zup (zup S (126 + 4 * t + 2) zd) (126 + 4 * t + 3) (S 3 + zn0)) := by
            simp only [zo_riddle, Int.toNat_natCast]
            rw [if_neg (by omega), if_neg (by omega), if_neg (by omega)]
          rw [e]
          exact ⟨rfl, (by rw [← hS]; rfl), rfl, (fun h => absurd (show (0 : Nat) = 3 from h) (by decide)), (fun _ => ⟨rfl, rfl, rfl⟩), (fun j h6 h7 h8 h9 => by simp [am_up, h6, h7, h8, h9]), (fun i h1 h2 => by funext j; simp [am_up, h1, h2])⟩
      · have h3 : ¬ (1 ≤ zn0 ∧ zn0 ≤ 48) := h3
        refine az_to 3 (pc2 := 48) (lv2 := [some (az_r 34), some (az_i (((t : Nat) : Int))), some (az_i (zd)), some (az_i (zn0))]) (st2 := [az_i (2), az_i (1), az_r 34]) (s2 := am_up s 34 6 (0)) rfl ?_
        refine az_clv (v := some (az_i (1))) (t := am_up (am_up s 34 6 (0)) 34 6 (2)) (m2 := am_m_X10_isThrown) (as := [az_r 34, az_i (1), az_i (2)]) (rest := []) 51 rfl rfl ⟨rfl, rfl⟩ (by omega) (zs_X10_isThrown_t (s := am_up s 34 6 (0)) (v := 2) (by omega) ) ?_
        refine az_to 0 (pc2 := 51) (lv2 := [some (az_r 34), some (az_i (((t : Nat) : Int))), some (az_i (zd)), some (az_i (zn0))]) (st2 := [az_i (1)]) (s2 := am_up (am_up s 34 6 (0)) 34 6 (2)) rfl ?_
        refine az_ifc 56 54 rfl (by decide) ⟨by decide, by decide⟩ (fun h => absurd h (by unfold az_cnd; decide)) (fun _ => ?_)
        refine az_to 1 (pc2 := 55) (lv2 := [some (az_r 34), some (az_i (((t : Nat) : Int))), some (az_i (zd)), some (az_i (zn0))]) (st2 := [az_i (0)]) (s2 := am_up (am_up s 34 6 (0)) 34 6 (2)) rfl ?_
        refine az_retI rfl rfl ?_
        have e : zo_riddle S ((t : Nat) : Int) zd zn0 = (2, 0, 0, S) := by
          simp only [zo_riddle, Int.toNat_natCast]
          first | (rw [if_pos (by omega)]) | (rw [if_neg (by omega), if_pos (by omega)]) | (rw [if_neg (by omega), if_neg (by omega), if_pos (by omega)]) | (rw [if_neg (by omega), if_neg (by omega), if_neg (by omega), if_pos (by omega)]) | (rw [if_neg (by omega), if_neg (by omega), if_neg (by omega), if_neg (by omega), if_pos (by omega)])
        rw [e]
        exact ⟨rfl, hS, rfl, (fun h => absurd (show (2 : Nat) = 3 from h) (by decide)), (fun _ => ⟨rfl, rfl, rfl⟩), (fun j h6 h7 h8 h9 => by simp [am_up, h6, h7, h8, h9]), (fun i h1 h2 => by funext j; simp [am_up, h1, h2])⟩
  · have h1 : ¬ (0 ≤ zt ∧ zt < ((zn S 1 : Nat) : Int)) := h1
    refine az_to 3 (pc2 := 15) (lv2 := [some (az_r 34), some (az_i (zt)), some (az_i (zd)), some (az_i (zn0))]) (st2 := [az_i (1), az_i (1), az_r 34]) (s2 := s) rfl ?_
    refine az_clv (v := some (az_i (1))) (t := am_up s 34 6 (1)) (m2 := am_m_X10_isThrown) (as := [az_r 34, az_i (1), az_i (1)]) (rest := []) 18 rfl rfl ⟨rfl, rfl⟩ (by omega) (zs_X10_isThrown_t (s := s) (v := 1) (by omega) ) ?_
    refine az_to 0 (pc2 := 18) (lv2 := [some (az_r 34), some (az_i (zt)), some (az_i (zd)), some (az_i (zn0))]) (st2 := [az_i (1)]) (s2 := am_up s 34 6 (1)) rfl ?_
    refine az_ifc 54 21 rfl (by decide) ⟨by decide, by decide⟩ (fun _ => ?_) (fun h => absurd (show az_cnd _ _ _ by unfold az_cnd; decide) h)
    refine az_to 1 (pc2 := 55) (lv2 := [some (az_r 34), some (az_i (zt)), some (az_i (zd)), some (az_i (zn0))]) (st2 := [az_i (0)]) (s2 := am_up s 34 6 (1)) rfl ?_
    refine az_retI rfl rfl ?_
    have e : zo_riddle S zt zd zn0 = (1, 0, 0, S) := by
      simp only [zo_riddle, Int.toNat_natCast]
      first | (rw [if_pos (by omega)]) | (rw [if_neg (by omega), if_pos (by omega)]) | (rw [if_neg (by omega), if_neg (by omega), if_pos (by omega)]) | (rw [if_neg (by omega), if_neg (by omega), if_neg (by omega), if_pos (by omega)]) | (rw [if_neg (by omega), if_neg (by omega), if_neg (by omega), if_neg (by omega), if_pos (by omega)])
    rw [e]
    exact ⟨rfl, hS, rfl, (fun h => absurd (show (1 : Nat) = 3 from h) (by decide)), (fun _ => ⟨rfl, rfl, rfl⟩), (fun j h6 h7 h8 h9 => by simp [am_up, h6, h7, h8, h9]), (fun i h1 h2 => by funext j; simp [am_up, h1, h2])⟩
set_option maxRecDepth 100000 in
set_option maxHeartbeats 800000 in
theorem zs_X10_fogs {d : Nat} {s : az_S} (hd : 3 ≤ d) {S : zR} {h : Nat} (hS : s 35 = S) (hI : zInv S h) (hh : h ≤ 10000) {zb : Int} {zn0 : Int} (h_zb : az_in zb) (h_zn0 : az_in zn0) : az_R d am_m_X10_fogs 0 (az_ini (am_mL am_m_X10_fogs) [az_r 34, az_i (zb), az_i (zn0)]) [] (s) (zMq s (zo_fog S zb zn0) 2) := by
  have hz := zI_h hI hh
  have hs0 : s 35 0 = ((zn S 0 : Nat) : Int) := by rw [hS, hz.2.1.1]
  have hs1 : s 35 1 = ((zn S 1 : Nat) : Int) := by rw [hS, hz.2.1.2.1]
  have hs2 : s 35 2 = ((zn S 2 : Nat) : Int) := by rw [hS, hz.2.1.2.2]
  have hs3 : s 35 3 = S 3 := by rw [hS]
  have hs5 : s 35 5 = S 5 := by rw [hS]
  refine az_to 0 (pc2 := 0) (lv2 := [some (az_r 34), some (az_i (zb)), some (az_i (zn0))]) (st2 := []) (s2 := s) rfl ?_
  refine az_to 3 (pc2 := 3) (lv2 := [some (az_r 34), some (az_i (zb)), some (az_i (zn0))]) (st2 := [az_i (zb), az_r 34, az_r 34]) (s2 := s) rfl ?_
  refine az_clv (v := some (az_i (az_b (0 ≤ zb ∧ zb < ((zn S 0 : Nat) : Int))))) (t := s) (m2 := am_m_X10_isBridge) (as := [az_r 34, az_i (zb)]) (rest := [az_r 34]) 6 rfl rfl ⟨rfl, rfl⟩ (by omega) (zs_X10_isBridge (s := s) (z := zb) (by omega) hS hI hh (by first | assumption | exact ⟨by omega, by omega⟩)) ?_
  refine az_to 0 (pc2 := 6) (lv2 := [some (az_r 34), some (az_i (zb)), some (az_i (zn0))]) (st2 := [az_i (az_b (0 ≤ zb ∧ zb < ((zn S 0 : Nat) : Int))), az_r 34]) (s2 := s) rfl ?_
  refine az_ifbn 13 9 rfl (by decide) (fun h1 => ?_) (fun h1 => ?_)
  · have h1 : 0 ≤ zb ∧ zb < ((zn S 0 : Nat) : Int) := h1
    obtain ⟨b, rfl⟩ : ∃ n0 : Nat, zb = n0 := ⟨zb.toNat, by omega⟩
    have hzb := zI_b hI hh (b := b) (by omega)
    refine az_to 0 (pc2 := 13) (lv2 := [some (az_r 34), some (az_i (((b : Nat) : Int))), some (az_i (zn0))]) (st2 := [az_r 34]) (s2 := s) (rfl) ?_
    refine az_to 2 (pc2 := 15) (lv2 := [some (az_r 34), some (az_i (((b : Nat) : Int))), some (az_i (zn0))]) (st2 := [az_i (1), az_i (0), az_r 34]) (s2 := s) rfl ?_
    refine az_clv (v := some (az_i (0))) (t := am_up s 34 6 (0)) (m2 := am_m_X10_isThrown) (as := [az_r 34, az_i (0), az_i (1)]) (rest := []) 18 rfl rfl ⟨rfl, rfl⟩ (by omega) (zs_X10_isThrown_f (s := s) (v := 1) (by omega) ) ?_
    refine az_to 0 (pc2 := 18) (lv2 := [some (az_r 34), some (az_i (((b : Nat) : Int))), some (az_i (zn0))]) (st2 := [az_i (0)]) (s2 := am_up s 34 6 (0)) rfl ?_
    refine az_ifc 44 21 rfl (by decide) ⟨by decide, by decide⟩ (fun h => absurd h (by unfold az_cnd; decide)) (fun _ => ?_)
    refine az_to 4 (pc2 := 26) (lv2 := [some (az_r 34), some (az_i (((b : Nat) : Int))), some (az_i (zn0))]) (st2 := [az_i (48), az_i (0), az_i (zn0), az_r 34]) (s2 := am_up s 34 6 (0)) rfl ?_
    refine az_clv (v := some (az_i (az_b (0 ≤ zn0 ∧ zn0 ≤ 48)))) (t := am_up s 34 6 (0)) (m2 := am_m_X10_isIn) (as := [az_i (zn0), az_i (0), az_i (48)]) (rest := [az_r 34]) 29 rfl rfl ⟨rfl, rfl⟩ (by omega) (zs_X10_isIn (s := am_up s 34 6 (0)) (z := zn0) (lo := 0) (hi := 48) (by omega) (by first | assumption | exact ⟨by omega, by omega⟩) ⟨by decide, by decide⟩ ⟨by decide, by decide⟩) ?_
    refine az_to 0 (pc2 := 29) (lv2 := [some (az_r 34), some (az_i (((b : Nat) : Int))), some (az_i (zn0))]) (st2 := [az_i (az_b (0 ≤ zn0 ∧ zn0 ≤ 48)), az_r 34]) (s2 := am_up s 34 6 (0)) rfl ?_
    refine az_ifbn 36 32 rfl (by decide) (fun h2 => ?_) (fun h2 => ?_)
    · have h2 : 0 ≤ zn0 ∧ zn0 ≤ 48 := h2
      refine az_to 2 (pc2 := 38) (lv2 := [some (az_r 34), some (az_i (((b : Nat) : Int))), some (az_i (zn0))]) (st2 := [az_i (2), az_i (0), az_r 34]) (s2 := am_up s 34 6 (0)) rfl ?_
      refine az_clv (v := some (az_i (0))) (t := am_up (am_up s 34 6 (0)) 34 6 (0)) (m2 := am_m_X10_isThrown) (as := [az_r 34, az_i (0), az_i (2)]) (rest := []) 41 rfl rfl ⟨rfl, rfl⟩ (by omega) (zs_X10_isThrown_f (s := am_up s 34 6 (0)) (v := 2) (by omega) ) ?_
      refine az_to 0 (pc2 := 41) (lv2 := [some (az_r 34), some (az_i (((b : Nat) : Int))), some (az_i (zn0))]) (st2 := [az_i (0)]) (s2 := am_up (am_up s 34 6 (0)) 34 6 (0)) rfl ?_
      refine az_ifc 46 44 rfl (by decide) ⟨by decide, by decide⟩ (fun _ => ?_) (fun h => absurd (show az_cnd _ _ _ by unfold az_cnd; decide) h)
      refine az_to 2 (pc2 := 48) (lv2 := [some (az_r 34), some (az_i (((b : Nat) : Int))), some (az_i (zn0))]) (st2 := [az_i (zn0), az_r 34]) (s2 := am_up (am_up s 34 6 (0)) 34 6 (0)) rfl ?_
      refine az_ifc 67 51 rfl (by decide) (by first | assumption | exact ⟨by omega, by omega⟩) (fun h3 => ?_) (fun h3 => ?_)
      · have h3 : ¬ zn0 = 0 := h3
        refine az_to 3 (pc2 := 70) (lv2 := [some (az_r 34), some (az_i (((b : Nat) : Int))), some (az_i (zn0))]) (st2 := [az_i (4), az_i (((b : Nat) : Int)), az_r 34, az_r 34]) (s2 := am_up (am_up s 34 6 (0)) 34 6 (0)) rfl ?_
        refine az_clv (v := some (az_i (zB S b 4))) (t := am_up (am_up s 34 6 (0)) 34 6 (0)) (m2 := am_m_X10_of) (as := [az_r 34, az_i (((b : Nat) : Int)), az_i (4)]) (rest := [az_r 34]) 73 rfl rfl ⟨rfl, rfl⟩ (by omega) (zs_X10_of (s := am_up (am_up s 34 6 (0)) 34 6 (0)) (b := b) (k := 4) (by omega) hS (by omega) (by omega)) ?_
        refine az_to 0 (pc2 := 73) (lv2 := [some (az_r 34), some (az_i (((b : Nat) : Int))), some (az_i (zn0))]) (st2 := [az_i (zB S b 4), az_r 34]) (s2 := am_up (am_up s 34 6 (0)) 34 6 (0)) rfl ?_
        refine az_to 3 (pc2 := 78) (lv2 := [some (az_r 34), some (az_i (((b : Nat) : Int))), some (az_i (zn0))]) (st2 := [az_i (3), az_r 35, az_i (zB S b 4), az_r 34]) (s2 := am_up (am_up s 34 6 (0)) 34 6 (0)) rfl ?_
        refine az_ld_i 79 rfl rfl (by constructor <;> omega) ⟨by decide, rfl⟩ ?_
        refine az_to 0 (pc2 := 79) (lv2 := [some (az_r 34), some (az_i (((b : Nat) : Int))), some (az_i (zn0))]) (st2 := [az_i ((am_up (am_up s 34 6 (0)) 34 6 (0)) 35 3), az_i (zB S b 4), az_r 34]) (s2 := am_up (am_up s 34 6 (0)) 34 6 (0)) rfl ?_
        refine az_to 0 (pc2 := 79) (lv2 := [some (az_r 34), some (az_i (((b : Nat) : Int))), some (az_i (zn0))]) (st2 := [az_i (S 3), az_i (zB S b 4), az_r 34]) (s2 := am_up (am_up s 34 6 (0)) 34 6 (0)) (by rw [show (am_up (am_up s 34 6 (0)) 34 6 (0)) 35 3 = S 3 from hs3]; rfl) ?_
        refine az_to 2 (pc2 := 81) (lv2 := [some (az_r 34), some (az_i (((b : Nat) : Int))), some (az_i (zn0))]) (st2 := [az_i ((S 3 + zn0)), az_i (zB S b 4), az_r 34]) (s2 := am_up (am_up s 34 6 (0)) 34 6 (0)) rfl ?_
        refine az_if2 88 84 rfl (by decide) (by first | assumption | exact ⟨by omega, by omega⟩) (by first | assumption | exact ⟨by omega, by omega⟩) (fun h4 => ?_) (fun h4 => ?_)
        · have h4 : ¬ zB S b 4 = (S 3 + zn0) := h4
          refine az_to 3 (pc2 := 91) (lv2 := [some (az_r 34), some (az_i (((b : Nat) : Int))), some (az_i (zn0))]) (st2 := [az_i (zn0), az_i (3), az_i (0), az_r 34]) (s2 := am_up (am_up s 34 6 (0)) 34 6 (0)) rfl ?_
          refine az_clv (v := some (az_i (0))) (t := am_up (am_up s 34 6 (0)) 34 6 (0)) (m2 := am_m_X10_isRefused) (as := [az_r 34, az_i (0), az_i (3), az_i (zn0)]) (rest := []) 94 rfl rfl ⟨rfl, rfl⟩ (by omega) (zs_X10_isRefused_f (s := am_up (am_up s 34 6 (0)) 34 6 (0)) (v := 3) (w := zn0) (by omega) ) ?_
          refine az_to 0 (pc2 := 94) (lv2 := [some (az_r 34), some (az_i (((b : Nat) : Int))), some (az_i (zn0))]) (st2 := [az_i (0)]) (s2 := am_up (am_up s 34 6 (0)) 34 6 (0)) rfl ?_
          refine az_ifc 99 97 rfl (by decide) ⟨by decide, by decide⟩ (fun _ => ?_) (fun h => absurd (show az_cnd _ _ _ by unfold az_cnd; decide) h)
          refine az_to 6 (pc2 := 107) (lv2 := [some (az_r 34), some (az_i (((b : Nat) : Int))), some (az_i (zn0))]) (st2 := [az_i (3), az_r 35, az_i (4), az_i (((b : Nat) : Int)), az_r 34]) (s2 := am_up (am_up s 34 6 (0)) 34 6 (0)) rfl ?_
          refine az_ld_i 108 rfl rfl (by constructor <;> omega) ⟨by decide, rfl⟩ ?_
          refine az_to 0 (pc2 := 108) (lv2 := [some (az_r 34), some (az_i (((b : Nat) : Int))), some (az_i (zn0))]) (st2 := [az_i ((am_up (am_up s 34 6 (0)) 34 6 (0)) 35 3), az_i (4), az_i (((b : Nat) : Int)), az_r 34]) (s2 := am_up (am_up s 34 6 (0)) 34 6 (0)) rfl ?_
          refine az_to 0 (pc2 := 108) (lv2 := [some (az_r 34), some (az_i (((b : Nat) : Int))), some (az_i (zn0))]) (st2 := [az_i (S 3), az_i (4), az_i (((b : Nat) : Int)), az_r 34]) (s2 := am_up (am_up s 34 6 (0)) 34 6 (0)) (by rw [show (am_up (am_up s 34 6 (0)) 34 6 (0)) 35 3 = S 3 from hs3]; rfl) ?_
          refine az_to 2 (pc2 := 110) (lv2 := [some (az_r 34), some (az_i (((b : Nat) : Int))), some (az_i (zn0))]) (st2 := [az_i ((S 3 + zn0)), az_i (4), az_i (((b : Nat) : Int)), az_r 34]) (s2 := am_up (am_up s 34 6 (0)) 34 6 (0)) rfl ?_
          refine az_clv (v := none) (t := am_up (am_up (am_up s 34 6 (0)) 34 6 (0)) 35 (6 + 12 * b + 4) (((S 3 + zn0)))) (m2 := am_m_X10_sets) (as := [az_r 34, az_i (((b : Nat) : Int)), az_i (4), az_i ((S 3 + zn0))]) (rest := []) 113 rfl rfl ⟨rfl, rfl⟩ (by omega) (zs_X10_sets (s := am_up (am_up s 34 6 (0)) 34 6 (0)) (b := b) (k := 4) (v := ((S 3 + zn0))) (by omega) (by omega) (by omega)) ?_
          refine az_to 0 (pc2 := 113) (lv2 := [some (az_r 34), some (az_i (((b : Nat) : Int))), some (az_i (zn0))]) (st2 := []) (s2 := am_up (am_up (am_up s 34 6 (0)) 34 6 (0)) 35 (6 + 12 * b + 4) (((S 3 + zn0)))) rfl ?_
          refine az_to 3 (pc2 := 118) (lv2 := [some (az_r 34), some (az_i (((b : Nat) : Int))), some (az_i (zn0))]) (st2 := [az_i (3), az_r 35]) (s2 := am_up (am_up (am_up s 34 6 (0)) 34 6 (0)) 35 (6 + 12 * b + 4) (((S 3 + zn0)))) rfl ?_
          refine az_ld_i 119 rfl rfl (by constructor <;> omega) ⟨by decide, rfl⟩ ?_
          refine az_to 0 (pc2 := 119) (lv2 := [some (az_r 34), some (az_i (((b : Nat) : Int))), some (az_i (zn0))]) (st2 := [az_i ((am_up (am_up (am_up s 34 6 (0)) 34 6 (0)) 35 (6 + 12 * b + 4) (((S 3 + zn0)))) 35 3)]) (s2 := am_up (am_up (am_up s 34 6 (0)) 34 6 (0)) 35 (6 + 12 * b + 4) (((S 3 + zn0)))) rfl ?_
          refine az_to 0 (pc2 := 119) (lv2 := [some (az_r 34), some (az_i (((b : Nat) : Int))), some (az_i (zn0))]) (st2 := [az_i (S 3)]) (s2 := am_up (am_up (am_up s 34 6 (0)) 34 6 (0)) 35 (6 + 12 * b + 4) (((S 3 + zn0)))) (by rw [show (am_up (am_up (am_up s 34 6 (0)) 34 6 (0)) 35 (6 + 12 * b + 4) (((S 3 + zn0)))) 35 3 = S 3 from (by show (zup (s 35) (6 + 12 * b + 4) (S 3 + zn0)) 3 = S 3; rw [zup_ne _ _ (by omega), hS])]; rfl) ?_
          refine az_to 2 (pc2 := 121) (lv2 := [some (az_r 34), some (az_i (((b : Nat) : Int))), some (az_i (zn0))]) (st2 := [az_i ((S 3 + zn0))]) (s2 := am_up (am_up (am_up s 34 6 (0)) 34 6 (0)) 35 (6 + 12 * b + 4) (((S 3 + zn0)))) rfl ?_
          refine az_retI rfl rfl ?_
          have e : zo_fog S ((b : Nat) : Int) zn0 = (0, (S 3 + zn0), 0, zup S (6 + 12 * b + 4) (S 3 + zn0)) := by
            simp only [zo_fog, Int.toNat_natCast]
            rw [if_neg (by omega), if_neg (by omega), if_neg (by omega)]
          rw [e]
          exact ⟨rfl, (by rw [← hS]; rfl), rfl, (fun h => absurd (show (0 : Nat) = 3 from h) (by decide)), (fun _ => ⟨rfl, rfl, rfl⟩), (fun j h6 h7 h8 h9 => by simp [am_up, h6, h7, h8, h9]), (fun i h1 h2 => by funext j; simp [am_up, h1, h2])⟩
        · have h4 : zB S b 4 = (S 3 + zn0) := Decidable.not_not.mp h4
          refine az_to 4 (pc2 := 91) (lv2 := [some (az_r 34), some (az_i (((b : Nat) : Int))), some (az_i (zn0))]) (st2 := [az_i (zn0), az_i (3), az_i (1), az_r 34]) (s2 := am_up (am_up s 34 6 (0)) 34 6 (0)) rfl ?_
          refine az_clv (v := some (az_i (1))) (t := am_up (am_up (am_up (am_up (am_up (am_up s 34 6 (0)) 34 6 (0)) 34 7 (3)) 34 8 (zn0)) 34 9 (0)) 34 6 (9)) (m2 := am_m_X10_isRefused) (as := [az_r 34, az_i (1), az_i (3), az_i (zn0)]) (rest := []) 94 rfl rfl ⟨rfl, rfl⟩ (by omega) (zs_X10_isRefused_t (s := am_up (am_up s 34 6 (0)) 34 6 (0)) (v := 3) (w := zn0) (by omega) ) ?_
          refine az_to 0 (pc2 := 94) (lv2 := [some (az_r 34), some (az_i (((b : Nat) : Int))), some (az_i (zn0))]) (st2 := [az_i (1)]) (s2 := am_up (am_up (am_up (am_up (am_up (am_up s 34 6 (0)) 34 6 (0)) 34 7 (3)) 34 8 (zn0)) 34 9 (0)) 34 6 (9)) rfl ?_
          refine az_ifc 99 97 rfl (by decide) ⟨by decide, by decide⟩ (fun h => absurd h (by unfold az_cnd; decide)) (fun _ => ?_)
          refine az_to 1 (pc2 := 98) (lv2 := [some (az_r 34), some (az_i (((b : Nat) : Int))), some (az_i (zn0))]) (st2 := [az_i (0)]) (s2 := am_up (am_up (am_up (am_up (am_up (am_up s 34 6 (0)) 34 6 (0)) 34 7 (3)) 34 8 (zn0)) 34 9 (0)) 34 6 (9)) rfl ?_
          refine az_retI rfl rfl ?_
          have e : zo_fog S ((b : Nat) : Int) zn0 = (3, 3, zn0, S) := by
            simp only [zo_fog, Int.toNat_natCast]
            first | (rw [if_pos (by omega)]) | (rw [if_neg (by omega), if_pos (by omega)]) | (rw [if_neg (by omega), if_neg (by omega), if_pos (by omega)]) | (rw [if_neg (by omega), if_neg (by omega), if_neg (by omega), if_pos (by omega)]) | (rw [if_neg (by omega), if_neg (by omega), if_neg (by omega), if_neg (by omega), if_pos (by omega)])
          rw [e]
          exact ⟨rfl, hS, rfl, (fun _ => ⟨rfl, rfl, rfl⟩), (fun h => absurd rfl h), (fun j h6 h7 h8 h9 => by simp [am_up, h6, h7, h8, h9]), (fun i h1 h2 => by funext j; simp [am_up, h1, h2])⟩
      · have h3 : zn0 = 0 := Decidable.not_not.mp h3
        refine az_to 2 (pc2 := 53) (lv2 := [some (az_r 34), some (az_i (((b : Nat) : Int))), some (az_i (zn0))]) (st2 := [az_i (((b : Nat) : Int)), az_r 34, az_r 34]) (s2 := am_up (am_up s 34 6 (0)) 34 6 (0)) rfl ?_
        refine az_clv (v := some (az_i (az_b (S 3 < zB S b 4)))) (t := am_up (am_up s 34 6 (0)) 34 6 (0)) (m2 := am_m_X10_isInFog) (as := [az_r 34, az_i (((b : Nat) : Int))]) (rest := [az_r 34]) 56 rfl rfl ⟨rfl, rfl⟩ (by omega) (zs_X10_isInFog (s := am_up (am_up s 34 6 (0)) 34 6 (0)) (b := b) (by omega) hS hI hh (by omega)) ?_
        refine az_to 0 (pc2 := 56) (lv2 := [some (az_r 34), some (az_i (((b : Nat) : Int))), some (az_i (zn0))]) (st2 := [az_i (az_b (S 3 < zB S b 4)), az_r 34]) (s2 := am_up (am_up s 34 6 (0)) 34 6 (0)) rfl ?_
        refine az_ifbn 63 59 rfl (by decide) (fun h5 => ?_) (fun h5 => ?_)
        · have h5 : S 3 < zB S b 4 := h5
          refine az_to 4 (pc2 := 91) (lv2 := [some (az_r 34), some (az_i (((b : Nat) : Int))), some (az_i (zn0))]) (st2 := [az_i (zn0), az_i (3), az_i (0), az_r 34]) (s2 := am_up (am_up s 34 6 (0)) 34 6 (0)) rfl ?_
          refine az_clv (v := some (az_i (0))) (t := am_up (am_up s 34 6 (0)) 34 6 (0)) (m2 := am_m_X10_isRefused) (as := [az_r 34, az_i (0), az_i (3), az_i (zn0)]) (rest := []) 94 rfl rfl ⟨rfl, rfl⟩ (by omega) (zs_X10_isRefused_f (s := am_up (am_up s 34 6 (0)) 34 6 (0)) (v := 3) (w := zn0) (by omega) ) ?_
          refine az_to 0 (pc2 := 94) (lv2 := [some (az_r 34), some (az_i (((b : Nat) : Int))), some (az_i (zn0))]) (st2 := [az_i (0)]) (s2 := am_up (am_up s 34 6 (0)) 34 6 (0)) rfl ?_
          refine az_ifc 99 97 rfl (by decide) ⟨by decide, by decide⟩ (fun _ => ?_) (fun h => absurd (show az_cnd _ _ _ by unfold az_cnd; decide) h)
          refine az_to 6 (pc2 := 107) (lv2 := [some (az_r 34), some (az_i (((b : Nat) : Int))), some (az_i (zn0))]) (st2 := [az_i (3), az_r 35, az_i (4), az_i (((b : Nat) : Int)), az_r 34]) (s2 := am_up (am_up s 34 6 (0)) 34 6 (0)) rfl ?_
          refine az_ld_i 108 rfl rfl (by constructor <;> omega) ⟨by decide, rfl⟩ ?_
          refine az_to 0 (pc2 := 108) (lv2 := [some (az_r 34), some (az_i (((b : Nat) : Int))), some (az_i (zn0))]) (st2 := [az_i ((am_up (am_up s 34 6 (0)) 34 6 (0)) 35 3), az_i (4), az_i (((b : Nat) : Int)), az_r 34]) (s2 := am_up (am_up s 34 6 (0)) 34 6 (0)) rfl ?_
          refine az_to 0 (pc2 := 108) (lv2 := [some (az_r 34), some (az_i (((b : Nat) : Int))), some (az_i (zn0))]) (st2 := [az_i (S 3), az_i (4), az_i (((b : Nat) : Int)), az_r 34]) (s2 := am_up (am_up s 34 6 (0)) 34 6 (0)) (by rw [show (am_up (am_up s 34 6 (0)) 34 6 (0)) 35 3 = S 3 from hs3]; rfl) ?_
          refine az_to 2 (pc2 := 110) (lv2 := [some (az_r 34), some (az_i (((b : Nat) : Int))), some (az_i (zn0))]) (st2 := [az_i ((S 3 + zn0)), az_i (4), az_i (((b : Nat) : Int)), az_r 34]) (s2 := am_up (am_up s 34 6 (0)) 34 6 (0)) rfl ?_
          refine az_clv (v := none) (t := am_up (am_up (am_up s 34 6 (0)) 34 6 (0)) 35 (6 + 12 * b + 4) (((S 3 + zn0)))) (m2 := am_m_X10_sets) (as := [az_r 34, az_i (((b : Nat) : Int)), az_i (4), az_i ((S 3 + zn0))]) (rest := []) 113 rfl rfl ⟨rfl, rfl⟩ (by omega) (zs_X10_sets (s := am_up (am_up s 34 6 (0)) 34 6 (0)) (b := b) (k := 4) (v := ((S 3 + zn0))) (by omega) (by omega) (by omega)) ?_
          refine az_to 0 (pc2 := 113) (lv2 := [some (az_r 34), some (az_i (((b : Nat) : Int))), some (az_i (zn0))]) (st2 := []) (s2 := am_up (am_up (am_up s 34 6 (0)) 34 6 (0)) 35 (6 + 12 * b + 4) (((S 3 + zn0)))) rfl ?_
          refine az_to 3 (pc2 := 118) (lv2 := [some (az_r 34), some (az_i (((b : Nat) : Int))), some (az_i (zn0))]) (st2 := [az_i (3), az_r 35]) (s2 := am_up (am_up (am_up s 34 6 (0)) 34 6 (0)) 35 (6 + 12 * b + 4) (((S 3 + zn0)))) rfl ?_
          refine az_ld_i 119 rfl rfl (by constructor <;> omega) ⟨by decide, rfl⟩ ?_
          refine az_to 0 (pc2 := 119) (lv2 := [some (az_r 34), some (az_i (((b : Nat) : Int))), some (az_i (zn0))]) (st2 := [az_i ((am_up (am_up (am_up s 34 6 (0)) 34 6 (0)) 35 (6 + 12 * b + 4) (((S 3 + zn0)))) 35 3)]) (s2 := am_up (am_up (am_up s 34 6 (0)) 34 6 (0)) 35 (6 + 12 * b + 4) (((S 3 + zn0)))) rfl ?_
          refine az_to 0 (pc2 := 119) (lv2 := [some (az_r 34), some (az_i (((b : Nat) : Int))), some (az_i (zn0))]) (st2 := [az_i (S 3)]) (s2 := am_up (am_up (am_up s 34 6 (0)) 34 6 (0)) 35 (6 + 12 * b + 4) (((S 3 + zn0)))) (by rw [show (am_up (am_up (am_up s 34 6 (0)) 34 6 (0)) 35 (6 + 12 * b + 4) (((S 3 + zn0)))) 35 3 = S 3 from (by show (zup (s 35) (6 + 12 * b + 4) (S 3 + zn0)) 3 = S 3; rw [zup_ne _ _ (by omega), hS])]; rfl) ?_
          refine az_to 2 (pc2 := 121) (lv2 := [some (az_r 34), some (az_i (((b : Nat) : Int))), some (az_i (zn0))]) (st2 := [az_i ((S 3 + zn0))]) (s2 := am_up (am_up (am_up s 34 6 (0)) 34 6 (0)) 35 (6 + 12 * b + 4) (((S 3 + zn0)))) rfl ?_
          refine az_retI rfl rfl ?_
          have e : zo_fog S ((b : Nat) : Int) zn0 = (0, (S 3 + zn0), 0, zup S (6 + 12 * b + 4) (S 3 + zn0)) := by
            simp only [zo_fog, Int.toNat_natCast]
            rw [if_neg (by omega), if_neg (by omega), if_neg (by omega)]
          rw [e]
          exact ⟨rfl, (by rw [← hS]; rfl), rfl, (fun h => absurd (show (0 : Nat) = 3 from h) (by decide)), (fun _ => ⟨rfl, rfl, rfl⟩), (fun j h6 h7 h8 h9 => by simp [am_up, h6, h7, h8, h9]), (fun i h1 h2 => by funext j; simp [am_up, h1, h2])⟩
        · have h5 : ¬ (S 3 < zB S b 4) := h5
          refine az_to 4 (pc2 := 91) (lv2 := [some (az_r 34), some (az_i (((b : Nat) : Int))), some (az_i (zn0))]) (st2 := [az_i (zn0), az_i (3), az_i (1), az_r 34]) (s2 := am_up (am_up s 34 6 (0)) 34 6 (0)) rfl ?_
          refine az_clv (v := some (az_i (1))) (t := am_up (am_up (am_up (am_up (am_up (am_up s 34 6 (0)) 34 6 (0)) 34 7 (3)) 34 8 (zn0)) 34 9 (0)) 34 6 (9)) (m2 := am_m_X10_isRefused) (as := [az_r 34, az_i (1), az_i (3), az_i (zn0)]) (rest := []) 94 rfl rfl ⟨rfl, rfl⟩ (by omega) (zs_X10_isRefused_t (s := am_up (am_up s 34 6 (0)) 34 6 (0)) (v := 3) (w := zn0) (by omega) ) ?_
          refine az_to 0 (pc2 := 94) (lv2 := [some (az_r 34), some (az_i (((b : Nat) : Int))), some (az_i (zn0))]) (st2 := [az_i (1)]) (s2 := am_up (am_up (am_up (am_up (am_up (am_up s 34 6 (0)) 34 6 (0)) 34 7 (3)) 34 8 (zn0)) 34 9 (0)) 34 6 (9)) rfl ?_
          refine az_ifc 99 97 rfl (by decide) ⟨by decide, by decide⟩ (fun h => absurd h (by unfold az_cnd; decide)) (fun _ => ?_)
          refine az_to 1 (pc2 := 98) (lv2 := [some (az_r 34), some (az_i (((b : Nat) : Int))), some (az_i (zn0))]) (st2 := [az_i (0)]) (s2 := am_up (am_up (am_up (am_up (am_up (am_up s 34 6 (0)) 34 6 (0)) 34 7 (3)) 34 8 (zn0)) 34 9 (0)) 34 6 (9)) rfl ?_
          refine az_retI rfl rfl ?_
          have e : zo_fog S ((b : Nat) : Int) zn0 = (3, 3, zn0, S) := by
            simp only [zo_fog, Int.toNat_natCast]
            first | (rw [if_pos (by omega)]) | (rw [if_neg (by omega), if_pos (by omega)]) | (rw [if_neg (by omega), if_neg (by omega), if_pos (by omega)]) | (rw [if_neg (by omega), if_neg (by omega), if_neg (by omega), if_pos (by omega)]) | (rw [if_neg (by omega), if_neg (by omega), if_neg (by omega), if_neg (by omega), if_pos (by omega)])
          rw [e]
          exact ⟨rfl, hS, rfl, (fun _ => ⟨rfl, rfl, rfl⟩), (fun h => absurd rfl h), (fun j h6 h7 h8 h9 => by simp [am_up, h6, h7, h8, h9]), (fun i h1 h2 => by funext j; simp [am_up, h1, h2])⟩
    · have h2 : ¬ (0 ≤ zn0 ∧ zn0 ≤ 48) := h2
      refine az_to 3 (pc2 := 38) (lv2 := [some (az_r 34), some (az_i (((b : Nat) : Int))), some (az_i (zn0))]) (st2 := [az_i (2), az_i (1), az_r 34]) (s2 := am_up s 34 6 (0)) rfl ?_
      refine az_clv (v := some (az_i (1))) (t := am_up (am_up s 34 6 (0)) 34 6 (2)) (m2 := am_m_X10_isThrown) (as := [az_r 34, az_i (1), az_i (2)]) (rest := []) 41 rfl rfl ⟨rfl, rfl⟩ (by omega) (zs_X10_isThrown_t (s := am_up s 34 6 (0)) (v := 2) (by omega) ) ?_
      refine az_to 0 (pc2 := 41) (lv2 := [some (az_r 34), some (az_i (((b : Nat) : Int))), some (az_i (zn0))]) (st2 := [az_i (1)]) (s2 := am_up (am_up s 34 6 (0)) 34 6 (2)) rfl ?_
      refine az_ifc 46 44 rfl (by decide) ⟨by decide, by decide⟩ (fun h => absurd h (by unfold az_cnd; decide)) (fun _ => ?_)
      refine az_to 1 (pc2 := 45) (lv2 := [some (az_r 34), some (az_i (((b : Nat) : Int))), some (az_i (zn0))]) (st2 := [az_i (0)]) (s2 := am_up (am_up s 34 6 (0)) 34 6 (2)) rfl ?_
      refine az_retI rfl rfl ?_
      have e : zo_fog S ((b : Nat) : Int) zn0 = (2, 0, 0, S) := by
        simp only [zo_fog, Int.toNat_natCast]
        first | (rw [if_pos (by omega)]) | (rw [if_neg (by omega), if_pos (by omega)]) | (rw [if_neg (by omega), if_neg (by omega), if_pos (by omega)]) | (rw [if_neg (by omega), if_neg (by omega), if_neg (by omega), if_pos (by omega)]) | (rw [if_neg (by omega), if_neg (by omega), if_neg (by omega), if_neg (by omega), if_pos (by omega)])
      rw [e]
      exact ⟨rfl, hS, rfl, (fun h => absurd (show (2 : Nat) = 3 from h) (by decide)), (fun _ => ⟨rfl, rfl, rfl⟩), (fun j h6 h7 h8 h9 => by simp [am_up, h6, h7, h8, h9]), (fun i h1 h2 => by funext j; simp [am_up, h1, h2])⟩
  · have h1 : ¬ (0 ≤ zb ∧ zb < ((zn S 0 : Nat) : Int)) := h1
    refine az_to 3 (pc2 := 15) (lv2 := [some (az_r 34), some (az_i (zb)), some (az_i (zn0))]) (st2 := [az_i (1), az_i (1), az_r 34]) (s2 := s) rfl ?_
    refine az_clv (v := some (az_i (1))) (t := am_up s 34 6 (1)) (m2 := am_m_X10_isThrown) (as := [az_r 34, az_i (1), az_i (1)]) (rest := []) 18 rfl rfl ⟨rfl, rfl⟩ (by omega) (zs_X10_isThrown_t (s := s) (v := 1) (by omega) ) ?_
    refine az_to 0 (pc2 := 18) (lv2 := [some (az_r 34), some (az_i (zb)), some (az_i (zn0))]) (st2 := [az_i (1)]) (s2 := am_up s 34 6 (1)) rfl ?_
    refine az_ifc 44 21 rfl (by decide) ⟨by decide, by decide⟩ (fun _ => ?_) (fun h => absurd (show az_cnd _ _ _ by unfold az_cnd; decide) h)
    refine az_to 1 (pc2 := 45) (lv2 := [some (az_r 34), some (az_i (zb)), some (az_i (zn0))]) (st2 := [az_i (0)]) (s2 := am_up s 34 6 (1)) rfl ?_
    refine az_retI rfl rfl ?_
    have e : zo_fog S zb zn0 = (1, 0, 0, S) := by
      simp only [zo_fog, Int.toNat_natCast]
      first | (rw [if_pos (by omega)]) | (rw [if_neg (by omega), if_pos (by omega)]) | (rw [if_neg (by omega), if_neg (by omega), if_pos (by omega)]) | (rw [if_neg (by omega), if_neg (by omega), if_neg (by omega), if_pos (by omega)]) | (rw [if_neg (by omega), if_neg (by omega), if_neg (by omega), if_neg (by omega), if_pos (by omega)])
    rw [e]
    exact ⟨rfl, hS, rfl, (fun h => absurd (show (1 : Nat) = 3 from h) (by decide)), (fun _ => ⟨rfl, rfl, rfl⟩), (fun j h6 h7 h8 h9 => by simp [am_up, h6, h7, h8, h9]), (fun i h1 h2 => by funext j; simp [am_up, h1, h2])⟩
set_option maxRecDepth 100000 in
set_option maxHeartbeats 800000 in
theorem zs_X10_prices {d : Nat} {s : az_S} (hd : 3 ≤ d) {S : zR} {h : Nat} (hS : s 35 = S) (hI : zInv S h) (hh : h ≤ 10000) {zb : Int} {zr : Int} (h_zb : az_in zb) (h_zr : az_in zr) : az_R d am_m_X10_prices 0 (az_ini (am_mL am_m_X10_prices) [az_r 34, az_i (zb), az_i (zr)]) [] (s) (zMq s (zo_price S zb zr) 2) := by
  have hz := zI_h hI hh
  have hs0 : s 35 0 = ((zn S 0 : Nat) : Int) := by rw [hS, hz.2.1.1]
  have hs1 : s 35 1 = ((zn S 1 : Nat) : Int) := by rw [hS, hz.2.1.2.1]
  have hs2 : s 35 2 = ((zn S 2 : Nat) : Int) := by rw [hS, hz.2.1.2.2]
  have hs3 : s 35 3 = S 3 := by rw [hS]
  have hs5 : s 35 5 = S 5 := by rw [hS]
  refine az_to 0 (pc2 := 0) (lv2 := [some (az_r 34), some (az_i (zb)), some (az_i (zr)), none]) (st2 := []) (s2 := s) rfl ?_
  refine az_to 3 (pc2 := 3) (lv2 := [some (az_r 34), some (az_i (zb)), some (az_i (zr)), none]) (st2 := [az_i (zb), az_r 34, az_r 34]) (s2 := s) rfl ?_
  refine az_clv (v := some (az_i (az_b (0 ≤ zb ∧ zb < ((zn S 0 : Nat) : Int))))) (t := s) (m2 := am_m_X10_isBridge) (as := [az_r 34, az_i (zb)]) (rest := [az_r 34]) 6 rfl rfl ⟨rfl, rfl⟩ (by omega) (zs_X10_isBridge (s := s) (z := zb) (by omega) hS hI hh (by first | assumption | exact ⟨by omega, by omega⟩)) ?_
  refine az_to 0 (pc2 := 6) (lv2 := [some (az_r 34), some (az_i (zb)), some (az_i (zr)), none]) (st2 := [az_i (az_b (0 ≤ zb ∧ zb < ((zn S 0 : Nat) : Int))), az_r 34]) (s2 := s) rfl ?_
  refine az_ifbn 13 9 rfl (by decide) (fun h1 => ?_) (fun h1 => ?_)
  · have h1 : 0 ≤ zb ∧ zb < ((zn S 0 : Nat) : Int) := h1
    obtain ⟨b, rfl⟩ : ∃ n0 : Nat, zb = n0 := ⟨zb.toNat, by omega⟩
    have hzb := zI_b hI hh (b := b) (by omega)
    refine az_to 0 (pc2 := 13) (lv2 := [some (az_r 34), some (az_i (((b : Nat) : Int))), some (az_i (zr)), none]) (st2 := [az_r 34]) (s2 := s) (rfl) ?_
    refine az_to 2 (pc2 := 15) (lv2 := [some (az_r 34), some (az_i (((b : Nat) : Int))), some (az_i (zr)), none]) (st2 := [az_i (1), az_i (0), az_r 34]) (s2 := s) rfl ?_
    refine az_clv (v := some (az_i (0))) (t := am_up s 34 6 (0)) (m2 := am_m_X10_isThrown) (as := [az_r 34, az_i (0), az_i (1)]) (rest := []) 18 rfl rfl ⟨rfl, rfl⟩ (by omega) (zs_X10_isThrown_f (s := s) (v := 1) (by omega) ) ?_
    refine az_to 0 (pc2 := 18) (lv2 := [some (az_r 34), some (az_i (((b : Nat) : Int))), some (az_i (zr)), none]) (st2 := [az_i (0)]) (s2 := am_up s 34 6 (0)) rfl ?_
    refine az_ifc 44 21 rfl (by decide) ⟨by decide, by decide⟩ (fun h => absurd h (by unfold az_cnd; decide)) (fun _ => ?_)
    refine az_to 4 (pc2 := 26) (lv2 := [some (az_r 34), some (az_i (((b : Nat) : Int))), some (az_i (zr)), none]) (st2 := [az_i (9), az_i (0), az_i (zr), az_r 34]) (s2 := am_up s 34 6 (0)) rfl ?_
    refine az_clv (v := some (az_i (az_b (0 ≤ zr ∧ zr ≤ 9)))) (t := am_up s 34 6 (0)) (m2 := am_m_X10_isIn) (as := [az_i (zr), az_i (0), az_i (9)]) (rest := [az_r 34]) 29 rfl rfl ⟨rfl, rfl⟩ (by omega) (zs_X10_isIn (s := am_up s 34 6 (0)) (z := zr) (lo := 0) (hi := 9) (by omega) (by first | assumption | exact ⟨by omega, by omega⟩) ⟨by decide, by decide⟩ ⟨by decide, by decide⟩) ?_
    refine az_to 0 (pc2 := 29) (lv2 := [some (az_r 34), some (az_i (((b : Nat) : Int))), some (az_i (zr)), none]) (st2 := [az_i (az_b (0 ≤ zr ∧ zr ≤ 9)), az_r 34]) (s2 := am_up s 34 6 (0)) rfl ?_
    refine az_ifbn 36 32 rfl (by decide) (fun h2 => ?_) (fun h2 => ?_)
    · have h2 : 0 ≤ zr ∧ zr ≤ 9 := h2
      refine az_to 2 (pc2 := 38) (lv2 := [some (az_r 34), some (az_i (((b : Nat) : Int))), some (az_i (zr)), none]) (st2 := [az_i (2), az_i (0), az_r 34]) (s2 := am_up s 34 6 (0)) rfl ?_
      refine az_clv (v := some (az_i (0))) (t := am_up (am_up s 34 6 (0)) 34 6 (0)) (m2 := am_m_X10_isThrown) (as := [az_r 34, az_i (0), az_i (2)]) (rest := []) 41 rfl rfl ⟨rfl, rfl⟩ (by omega) (zs_X10_isThrown_f (s := am_up s 34 6 (0)) (v := 2) (by omega) ) ?_
      refine az_to 0 (pc2 := 41) (lv2 := [some (az_r 34), some (az_i (((b : Nat) : Int))), some (az_i (zr)), none]) (st2 := [az_i (0)]) (s2 := am_up (am_up s 34 6 (0)) 34 6 (0)) rfl ?_
      refine az_ifc 46 44 rfl (by decide) ⟨by decide, by decide⟩ (fun _ => ?_) (fun h => absurd (show az_cnd _ _ _ by unfold az_cnd; decide) h)
      refine az_to 3 (pc2 := 49) (lv2 := [some (az_r 34), some (az_i (((b : Nat) : Int))), some (az_i (zr)), none]) (st2 := [az_i (3), az_i (((b : Nat) : Int)), az_r 34]) (s2 := am_up (am_up s 34 6 (0)) 34 6 (0)) rfl ?_
      refine az_clv (v := some (az_i (zB S b 3))) (t := am_up (am_up s 34 6 (0)) 34 6 (0)) (m2 := am_m_X10_of) (as := [az_r 34, az_i (((b : Nat) : Int)), az_i (3)]) (rest := []) 52 rfl rfl ⟨rfl, rfl⟩ (by omega) (zs_X10_of (s := am_up (am_up s 34 6 (0)) 34 6 (0)) (b := b) (k := 3) (by omega) hS (by omega) (by omega)) ?_
      refine az_to 0 (pc2 := 52) (lv2 := [some (az_r 34), some (az_i (((b : Nat) : Int))), some (az_i (zr)), none]) (st2 := [az_i (zB S b 3)]) (s2 := am_up (am_up s 34 6 (0)) 34 6 (0)) rfl ?_
      refine az_to 4 (pc2 := 56) (lv2 := [some (az_r 34), some (az_i (((b : Nat) : Int))), some (az_i (zr)), some (az_i (zB S b 3))]) (st2 := [az_i (zr), az_i (zB S b 3), az_r 34]) (s2 := am_up (am_up s 34 6 (0)) 34 6 (0)) rfl ?_
      refine az_if2 63 59 rfl (by decide) (by first | assumption | exact ⟨by omega, by omega⟩) (by first | assumption | exact ⟨by omega, by omega⟩) (fun h3 => ?_) (fun h3 => ?_)
      · have h3 : ¬ zB S b 3 = zr := h3
        refine az_to 3 (pc2 := 66) (lv2 := [some (az_r 34), some (az_i (((b : Nat) : Int))), some (az_i (zr)), some (az_i (zB S b 3))]) (st2 := [az_i (zr), az_i (3), az_i (0), az_r 34]) (s2 := am_up (am_up s 34 6 (0)) 34 6 (0)) rfl ?_
        refine az_clv (v := some (az_i (0))) (t := am_up (am_up s 34 6 (0)) 34 6 (0)) (m2 := am_m_X10_isRefused) (as := [az_r 34, az_i (0), az_i (3), az_i (zr)]) (rest := []) 69 rfl rfl ⟨rfl, rfl⟩ (by omega) (zs_X10_isRefused_f (s := am_up (am_up s 34 6 (0)) 34 6 (0)) (v := 3) (w := zr) (by omega) ) ?_
        refine az_to 0 (pc2 := 69) (lv2 := [some (az_r 34), some (az_i (((b : Nat) : Int))), some (az_i (zr)), some (az_i (zB S b 3))]) (st2 := [az_i (0)]) (s2 := am_up (am_up s 34 6 (0)) 34 6 (0)) rfl ?_
        refine az_ifc 80 72 rfl (by decide) ⟨by decide, by decide⟩ (fun h => absurd h (by unfold az_cnd; decide)) (fun _ => ?_)
        refine az_to 2 (pc2 := 74) (lv2 := [some (az_r 34), some (az_i (((b : Nat) : Int))), some (az_i (zr)), some (az_i (zB S b 3))]) (st2 := [az_i (((b : Nat) : Int)), az_r 34]) (s2 := am_up (am_up s 34 6 (0)) 34 6 (0)) rfl ?_
        by_cases h4 : 0 ≤ zB S b 5
        · skip
          refine az_clv (v := some (az_i (1))) (t := am_up (am_up (am_up (am_up (am_up (am_up s 34 6 (0)) 34 6 (0)) 34 7 (10)) 34 8 (zB S b 5)) 34 9 (0)) 34 6 (9)) (m2 := am_m_X10_isDisputed) (as := [az_r 34, az_i (((b : Nat) : Int))]) (rest := []) 77 rfl rfl ⟨rfl, rfl⟩ (by omega) (zs_X10_isDisputed_t (s := am_up (am_up s 34 6 (0)) 34 6 (0)) (b := b) (by omega) hS hI hh (by omega) (by first | assumption | omega)) ?_
          refine az_to 0 (pc2 := 77) (lv2 := [some (az_r 34), some (az_i (((b : Nat) : Int))), some (az_i (zr)), some (az_i (zB S b 3))]) (st2 := [az_i (1)]) (s2 := am_up (am_up (am_up (am_up (am_up (am_up s 34 6 (0)) 34 6 (0)) 34 7 (10)) 34 8 (zB S b 5)) 34 9 (0)) 34 6 (9)) rfl ?_
          refine az_ifc 82 80 rfl (by decide) ⟨by decide, by decide⟩ (fun h => absurd h (by unfold az_cnd; decide)) (fun _ => ?_)
          refine az_to 1 (pc2 := 81) (lv2 := [some (az_r 34), some (az_i (((b : Nat) : Int))), some (az_i (zr)), some (az_i (zB S b 3))]) (st2 := [az_i (0)]) (s2 := am_up (am_up (am_up (am_up (am_up (am_up s 34 6 (0)) 34 6 (0)) 34 7 (10)) 34 8 (zB S b 5)) 34 9 (0)) 34 6 (9)) rfl ?_
          refine az_retI rfl rfl ?_
          have e : zo_price S ((b : Nat) : Int) zr = (3, 10, zB S b 5, S) := by
            simp only [zo_price, Int.toNat_natCast]
            first | (rw [if_pos (by omega)]) | (rw [if_neg (by omega), if_pos (by omega)]) | (rw [if_neg (by omega), if_neg (by omega), if_pos (by omega)]) | (rw [if_neg (by omega), if_neg (by omega), if_neg (by omega), if_pos (by omega)]) | (rw [if_neg (by omega), if_neg (by omega), if_neg (by omega), if_neg (by omega), if_pos (by omega)])
          rw [e]
          exact ⟨rfl, hS, rfl, (fun _ => ⟨rfl, rfl, rfl⟩), (fun h => absurd rfl h), (fun j h6 h7 h8 h9 => by simp [am_up, h6, h7, h8, h9]), (fun i h1 h2 => by funext j; simp [am_up, h1, h2])⟩
        · skip
          refine az_clv (v := some (az_i (0))) (t := am_up (am_up s 34 6 (0)) 34 6 (0)) (m2 := am_m_X10_isDisputed) (as := [az_r 34, az_i (((b : Nat) : Int))]) (rest := []) 77 rfl rfl ⟨rfl, rfl⟩ (by omega) (zs_X10_isDisputed_f (s := am_up (am_up s 34 6 (0)) 34 6 (0)) (b := b) (by omega) hS hI hh (by omega) (by first | assumption | omega)) ?_
          refine az_to 0 (pc2 := 77) (lv2 := [some (az_r 34), some (az_i (((b : Nat) : Int))), some (az_i (zr)), some (az_i (zB S b 3))]) (st2 := [az_i (0)]) (s2 := am_up (am_up s 34 6 (0)) 34 6 (0)) rfl ?_
          refine az_ifc 82 80 rfl (by decide) ⟨by decide, by decide⟩ (fun _ => ?_) (fun h => absurd (show az_cnd _ _ _ by unfold az_cnd; decide) h)
          refine az_to 4 (pc2 := 86) (lv2 := [some (az_r 34), some (az_i (((b : Nat) : Int))), some (az_i (zr)), some (az_i (zB S b 3))]) (st2 := [az_i (zr), az_i (3), az_i (((b : Nat) : Int)), az_r 34]) (s2 := am_up (am_up s 34 6 (0)) 34 6 (0)) rfl ?_
          refine az_clv (v := none) (t := am_up (am_up (am_up s 34 6 (0)) 34 6 (0)) 35 (6 + 12 * b + 3) (zr)) (m2 := am_m_X10_sets) (as := [az_r 34, az_i (((b : Nat) : Int)), az_i (3), az_i (zr)]) (rest := []) 89 rfl rfl ⟨rfl, rfl⟩ (by omega) (zs_X10_sets (s := am_up (am_up s 34 6 (0)) 34 6 (0)) (b := b) (k := 3) (v := zr) (by omega) (by omega) (by omega)) ?_
          refine az_to 0 (pc2 := 89) (lv2 := [some (az_r 34), some (az_i (((b : Nat) : Int))), some (az_i (zr)), some (az_i (zB S b 3))]) (st2 := []) (s2 := am_up (am_up (am_up s 34 6 (0)) 34 6 (0)) 35 (6 + 12 * b + 3) (zr)) rfl ?_
          refine az_to 1 (pc2 := 90) (lv2 := [some (az_r 34), some (az_i (((b : Nat) : Int))), some (az_i (zr)), some (az_i (zB S b 3))]) (st2 := [az_i (zB S b 3)]) (s2 := am_up (am_up (am_up s 34 6 (0)) 34 6 (0)) 35 (6 + 12 * b + 3) (zr)) rfl ?_
          refine az_retI rfl rfl ?_
          have e : zo_price S ((b : Nat) : Int) zr = (0, zB S b 3, 0, zup S (6 + 12 * b + 3) zr) := by
            simp only [zo_price, Int.toNat_natCast]
            rw [if_neg (by omega), if_neg (by omega), if_neg (by omega), if_neg (by omega)]
          rw [e]
          exact ⟨rfl, (by rw [← hS]; rfl), rfl, (fun h => absurd (show (0 : Nat) = 3 from h) (by decide)), (fun _ => ⟨rfl, rfl, rfl⟩), (fun j h6 h7 h8 h9 => by simp [am_up, h6, h7, h8, h9]), (fun i h1 h2 => by funext j; simp [am_up, h1, h2])⟩
      · have h3 : zB S b 3 = zr := Decidable.not_not.mp h3
        refine az_to 4 (pc2 := 66) (lv2 := [some (az_r 34), some (az_i (((b : Nat) : Int))), some (az_i (zr)), some (az_i (zB S b 3))]) (st2 := [az_i (zr), az_i (3), az_i (1), az_r 34]) (s2 := am_up (am_up s 34 6 (0)) 34 6 (0)) rfl ?_
        refine az_clv (v := some (az_i (1))) (t := am_up (am_up (am_up (am_up (am_up (am_up s 34 6 (0)) 34 6 (0)) 34 7 (3)) 34 8 (zr)) 34 9 (0)) 34 6 (9)) (m2 := am_m_X10_isRefused) (as := [az_r 34, az_i (1), az_i (3), az_i (zr)]) (rest := []) 69 rfl rfl ⟨rfl, rfl⟩ (by omega) (zs_X10_isRefused_t (s := am_up (am_up s 34 6 (0)) 34 6 (0)) (v := 3) (w := zr) (by omega) ) ?_
        refine az_to 0 (pc2 := 69) (lv2 := [some (az_r 34), some (az_i (((b : Nat) : Int))), some (az_i (zr)), some (az_i (zB S b 3))]) (st2 := [az_i (1)]) (s2 := am_up (am_up (am_up (am_up (am_up (am_up s 34 6 (0)) 34 6 (0)) 34 7 (3)) 34 8 (zr)) 34 9 (0)) 34 6 (9)) rfl ?_
        refine az_ifc 80 72 rfl (by decide) ⟨by decide, by decide⟩ (fun _ => ?_) (fun h => absurd (show az_cnd _ _ _ by unfold az_cnd; decide) h)
        refine az_to 1 (pc2 := 81) (lv2 := [some (az_r 34), some (az_i (((b : Nat) : Int))), some (az_i (zr)), some (az_i (zB S b 3))]) (st2 := [az_i (0)]) (s2 := am_up (am_up (am_up (am_up (am_up (am_up s 34 6 (0)) 34 6 (0)) 34 7 (3)) 34 8 (zr)) 34 9 (0)) 34 6 (9)) rfl ?_
        refine az_retI rfl rfl ?_
        have e : zo_price S ((b : Nat) : Int) zr = (3, 3, zr, S) := by
          simp only [zo_price, Int.toNat_natCast]
          first | (rw [if_pos (by omega)]) | (rw [if_neg (by omega), if_pos (by omega)]) | (rw [if_neg (by omega), if_neg (by omega), if_pos (by omega)]) | (rw [if_neg (by omega), if_neg (by omega), if_neg (by omega), if_pos (by omega)]) | (rw [if_neg (by omega), if_neg (by omega), if_neg (by omega), if_neg (by omega), if_pos (by omega)])
        rw [e]
        exact ⟨rfl, hS, rfl, (fun _ => ⟨rfl, rfl, rfl⟩), (fun h => absurd rfl h), (fun j h6 h7 h8 h9 => by simp [am_up, h6, h7, h8, h9]), (fun i h1 h2 => by funext j; simp [am_up, h1, h2])⟩
    · have h2 : ¬ (0 ≤ zr ∧ zr ≤ 9) := h2
      refine az_to 3 (pc2 := 38) (lv2 := [some (az_r 34), some (az_i (((b : Nat) : Int))), some (az_i (zr)), none]) (st2 := [az_i (2), az_i (1), az_r 34]) (s2 := am_up s 34 6 (0)) rfl ?_
      refine az_clv (v := some (az_i (1))) (t := am_up (am_up s 34 6 (0)) 34 6 (2)) (m2 := am_m_X10_isThrown) (as := [az_r 34, az_i (1), az_i (2)]) (rest := []) 41 rfl rfl ⟨rfl, rfl⟩ (by omega) (zs_X10_isThrown_t (s := am_up s 34 6 (0)) (v := 2) (by omega) ) ?_
      refine az_to 0 (pc2 := 41) (lv2 := [some (az_r 34), some (az_i (((b : Nat) : Int))), some (az_i (zr)), none]) (st2 := [az_i (1)]) (s2 := am_up (am_up s 34 6 (0)) 34 6 (2)) rfl ?_
      refine az_ifc 46 44 rfl (by decide) ⟨by decide, by decide⟩ (fun h => absurd h (by unfold az_cnd; decide)) (fun _ => ?_)
      refine az_to 1 (pc2 := 45) (lv2 := [some (az_r 34), some (az_i (((b : Nat) : Int))), some (az_i (zr)), none]) (st2 := [az_i (0)]) (s2 := am_up (am_up s 34 6 (0)) 34 6 (2)) rfl ?_
      refine az_retI rfl rfl ?_
      have e : zo_price S ((b : Nat) : Int) zr = (2, 0, 0, S) := by
        simp only [zo_price, Int.toNat_natCast]
        first | (rw [if_pos (by omega)]) | (rw [if_neg (by omega), if_pos (by omega)]) | (rw [if_neg (by omega), if_neg (by omega), if_pos (by omega)]) | (rw [if_neg (by omega), if_neg (by omega), if_neg (by omega), if_pos (by omega)]) | (rw [if_neg (by omega), if_neg (by omega), if_neg (by omega), if_neg (by omega), if_pos (by omega)])
      rw [e]
      exact ⟨rfl, hS, rfl, (fun h => absurd (show (2 : Nat) = 3 from h) (by decide)), (fun _ => ⟨rfl, rfl, rfl⟩), (fun j h6 h7 h8 h9 => by simp [am_up, h6, h7, h8, h9]), (fun i h1 h2 => by funext j; simp [am_up, h1, h2])⟩
  · have h1 : ¬ (0 ≤ zb ∧ zb < ((zn S 0 : Nat) : Int)) := h1
    refine az_to 3 (pc2 := 15) (lv2 := [some (az_r 34), some (az_i (zb)), some (az_i (zr)), none]) (st2 := [az_i (1), az_i (1), az_r 34]) (s2 := s) rfl ?_
    refine az_clv (v := some (az_i (1))) (t := am_up s 34 6 (1)) (m2 := am_m_X10_isThrown) (as := [az_r 34, az_i (1), az_i (1)]) (rest := []) 18 rfl rfl ⟨rfl, rfl⟩ (by omega) (zs_X10_isThrown_t (s := s) (v := 1) (by omega) ) ?_
    refine az_to 0 (pc2 := 18) (lv2 := [some (az_r 34), some (az_i (zb)), some (az_i (zr)), none]) (st2 := [az_i (1)]) (s2 := am_up s 34 6 (1)) rfl ?_
    refine az_ifc 44 21 rfl (by decide) ⟨by decide, by decide⟩ (fun _ => ?_) (fun h => absurd (show az_cnd _ _ _ by unfold az_cnd; decide) h)
    refine az_to 1 (pc2 := 45) (lv2 := [some (az_r 34), some (az_i (zb)), some (az_i (zr)), none]) (st2 := [az_i (0)]) (s2 := am_up s 34 6 (1)) rfl ?_
    refine az_retI rfl rfl ?_
    have e : zo_price S zb zr = (1, 0, 0, S) := by
      simp only [zo_price, Int.toNat_natCast]
      first | (rw [if_pos (by omega)]) | (rw [if_neg (by omega), if_pos (by omega)]) | (rw [if_neg (by omega), if_neg (by omega), if_pos (by omega)]) | (rw [if_neg (by omega), if_neg (by omega), if_neg (by omega), if_pos (by omega)]) | (rw [if_neg (by omega), if_neg (by omega), if_neg (by omega), if_neg (by omega), if_pos (by omega)])
    rw [e]
    exact ⟨rfl, hS, rfl, (fun h => absurd (show (1 : Nat) = 3 from h) (by decide)), (fun _ => ⟨rfl, rfl, rfl⟩), (fun j h6 h7 h8 h9 => by simp [am_up, h6, h7, h8, h9]), (fun i h1 h2 => by funext j; simp [am_up, h1, h2])⟩
set_option maxRecDepth 100000 in
set_option maxHeartbeats 800000 in
theorem zs_X10_passes {d : Nat} {s : az_S} (hd : 3 ≤ d) {S : zR} {h : Nat} (hS : s 35 = S) (hI : zInv S h) (hh : h ≤ 10000) {zh : Int} (h_zh : az_in zh) (hh9 : h + 1 ≤ 10000) : az_R d am_m_X10_passes 0 (az_ini (am_mL am_m_X10_passes) [az_r 34, az_i (zh)]) [] (s) (zMq s (zo_pass S zh) 1) := by
  have hz := zI_h hI hh
  have hs0 : s 35 0 = ((zn S 0 : Nat) : Int) := by rw [hS, hz.2.1.1]
  have hs1 : s 35 1 = ((zn S 1 : Nat) : Int) := by rw [hS, hz.2.1.2.1]
  have hs2 : s 35 2 = ((zn S 2 : Nat) : Int) := by rw [hS, hz.2.1.2.2]
  have hs3 : s 35 3 = S 3 := by rw [hS]
  have hs5 : s 35 5 = S 5 := by rw [hS]
  refine az_to 0 (pc2 := 0) (lv2 := [some (az_r 34), some (az_i (zh)), none]) (st2 := []) (s2 := s) rfl ?_
  refine az_to 4 (pc2 := 5) (lv2 := [some (az_r 34), some (az_i (zh)), none]) (st2 := [az_i (48), az_i (1), az_i (zh), az_r 34]) (s2 := s) rfl ?_
  refine az_clv (v := some (az_i (az_b (1 ≤ zh ∧ zh ≤ 48)))) (t := s) (m2 := am_m_X10_isIn) (as := [az_i (zh), az_i (1), az_i (48)]) (rest := [az_r 34]) 8 rfl rfl ⟨rfl, rfl⟩ (by omega) (zs_X10_isIn (s := s) (z := zh) (lo := 1) (hi := 48) (by omega) (by first | assumption | exact ⟨by omega, by omega⟩) ⟨by decide, by decide⟩ ⟨by decide, by decide⟩) ?_
  refine az_to 0 (pc2 := 8) (lv2 := [some (az_r 34), some (az_i (zh)), none]) (st2 := [az_i (az_b (1 ≤ zh ∧ zh ≤ 48)), az_r 34]) (s2 := s) rfl ?_
  refine az_ifbn 15 11 rfl (by decide) (fun h1 => ?_) (fun h1 => ?_)
  · have h1 : 1 ≤ zh ∧ zh ≤ 48 := h1
    refine az_to 2 (pc2 := 17) (lv2 := [some (az_r 34), some (az_i (zh)), none]) (st2 := [az_i (1), az_i (0), az_r 34]) (s2 := s) rfl ?_
    refine az_clv (v := some (az_i (0))) (t := am_up s 34 6 (0)) (m2 := am_m_X10_isThrown) (as := [az_r 34, az_i (0), az_i (1)]) (rest := []) 20 rfl rfl ⟨rfl, rfl⟩ (by omega) (zs_X10_isThrown_f (s := s) (v := 1) (by omega) ) ?_
    refine az_to 0 (pc2 := 20) (lv2 := [some (az_r 34), some (az_i (zh)), none]) (st2 := [az_i (0)]) (s2 := am_up s 34 6 (0)) rfl ?_
    refine az_ifc 25 23 rfl (by decide) ⟨by decide, by decide⟩ (fun _ => ?_) (fun h => absurd (show az_cnd _ _ _ by unfold az_cnd; decide) h)
    refine az_to 1 (pc2 := 26) (lv2 := [some (az_r 34), some (az_i (zh)), none]) (st2 := [az_r 34]) (s2 := am_up s 34 6 (0)) rfl ?_
    refine az_clv (v := some (az_i (zhl S))) (t := am_up s 34 6 (0)) (m2 := am_m_X10_holding) (as := [az_r 34]) (rest := []) 29 rfl rfl ⟨rfl, rfl⟩ (by omega) (zs_X10_holding (s := am_up s 34 6 (0))  (by omega) hS hI hh) ?_
    refine az_to 0 (pc2 := 29) (lv2 := [some (az_r 34), some (az_i (zh)), none]) (st2 := [az_i (zhl S)]) (s2 := am_up s 34 6 (0)) rfl ?_
    refine az_to 5 (pc2 := 36) (lv2 := [some (az_r 34), some (az_i (zh)), some (az_i (zhl S))]) (st2 := [az_i (3), az_r 35, az_i (3), az_r 35]) (s2 := am_up s 34 6 (0)) rfl ?_
    refine az_ld_i 37 rfl rfl (by constructor <;> omega) ⟨by decide, rfl⟩ ?_
    refine az_to 0 (pc2 := 37) (lv2 := [some (az_r 34), some (az_i (zh)), some (az_i (zhl S))]) (st2 := [az_i ((am_up s 34 6 (0)) 35 3), az_i (3), az_r 35]) (s2 := am_up s 34 6 (0)) rfl ?_
    refine az_to 0 (pc2 := 37) (lv2 := [some (az_r 34), some (az_i (zh)), some (az_i (zhl S))]) (st2 := [az_i (S 3), az_i (3), az_r 35]) (s2 := am_up s 34 6 (0)) (by rw [show (am_up s 34 6 (0)) 35 3 = S 3 from hs3]; rfl) ?_
    refine az_to 2 (pc2 := 39) (lv2 := [some (az_r 34), some (az_i (zh)), some (az_i (zhl S))]) (st2 := [az_i ((S 3 + zh)), az_i (3), az_r 35]) (s2 := am_up s 34 6 (0)) rfl ?_
    refine az_st_i 40 rfl rfl (by constructor <;> omega) ⟨by decide, rfl⟩ ?_
    have hS2 : (am_up (am_up s 34 6 (0)) 35 3 ((S 3 + zh))) 35 = zup S 3 (S 3 + zh) := by rw [← hS]; rfl
    have hI2 : zInv (zup S 3 (S 3 + zh)) (h + 1) := zV_hour hI (by omega) (by have := hI.1; omega)
    refine az_to 2 (pc2 := 42) (lv2 := [some (az_r 34), some (az_i (zh)), some (az_i (zhl S))]) (st2 := [az_r 34, az_i (zhl S)]) (s2 := am_up (am_up s 34 6 (0)) 35 3 ((S 3 + zh))) rfl ?_
    refine az_clv (v := some (az_i (zhl (zup S 3 (S 3 + zh))))) (t := am_up (am_up s 34 6 (0)) 35 3 ((S 3 + zh))) (m2 := am_m_X10_holding) (as := [az_r 34]) (rest := [az_i (zhl S)]) 45 rfl rfl ⟨rfl, rfl⟩ (by omega) (zs_X10_holding (s := am_up (am_up s 34 6 (0)) 35 3 ((S 3 + zh)))  (by omega) hS2 hI2 hh9) ?_
    refine az_to 0 (pc2 := 45) (lv2 := [some (az_r 34), some (az_i (zh)), some (az_i (zhl S))]) (st2 := [az_i (zhl (zup S 3 (S 3 + zh))), az_i (zhl S)]) (s2 := am_up (am_up s 34 6 (0)) 35 3 ((S 3 + zh))) rfl ?_
    refine az_to 1 (pc2 := 46) (lv2 := [some (az_r 34), some (az_i (zh)), some (az_i (zhl S))]) (st2 := [az_i ((zhl S - zhl (zup S 3 (S 3 + zh))))]) (s2 := am_up (am_up s 34 6 (0)) 35 3 ((S 3 + zh))) rfl ?_
    refine az_retI rfl rfl ?_
    have e : zo_pass S zh = (0, (zhl S - zhl (zup S 3 (S 3 + zh))), 0, zup S 3 (S 3 + zh)) := by
      simp only [zo_pass, Int.toNat_natCast]
      rw [if_neg (by omega)]
      rw [zhl_d hI hh (by omega)]
    rw [e]
    exact ⟨rfl, hS2, rfl, (fun h => absurd (show (0 : Nat) = 3 from h) (by decide)), (fun _ => ⟨rfl, rfl, rfl⟩), (fun j h6 h7 h8 h9 => by simp [am_up, h6, h7, h8, h9]), (fun i h1 h2 => by funext j; simp [am_up, h1, h2])⟩
  · have h1 : ¬ (1 ≤ zh ∧ zh ≤ 48) := h1
    refine az_to 3 (pc2 := 17) (lv2 := [some (az_r 34), some (az_i (zh)), none]) (st2 := [az_i (1), az_i (1), az_r 34]) (s2 := s) rfl ?_
    refine az_clv (v := some (az_i (1))) (t := am_up s 34 6 (1)) (m2 := am_m_X10_isThrown) (as := [az_r 34, az_i (1), az_i (1)]) (rest := []) 20 rfl rfl ⟨rfl, rfl⟩ (by omega) (zs_X10_isThrown_t (s := s) (v := 1) (by omega) ) ?_
    refine az_to 0 (pc2 := 20) (lv2 := [some (az_r 34), some (az_i (zh)), none]) (st2 := [az_i (1)]) (s2 := am_up s 34 6 (1)) rfl ?_
    refine az_ifc 25 23 rfl (by decide) ⟨by decide, by decide⟩ (fun h => absurd h (by unfold az_cnd; decide)) (fun _ => ?_)
    refine az_to 1 (pc2 := 24) (lv2 := [some (az_r 34), some (az_i (zh)), none]) (st2 := [az_i (0)]) (s2 := am_up s 34 6 (1)) rfl ?_
    refine az_retI rfl rfl ?_
    have e : zo_pass S zh = (2, 0, 0, S) := by
      simp only [zo_pass, Int.toNat_natCast]
      first | (rw [if_pos (by omega)]) | (rw [if_neg (by omega), if_pos (by omega)]) | (rw [if_neg (by omega), if_neg (by omega), if_pos (by omega)]) | (rw [if_neg (by omega), if_neg (by omega), if_neg (by omega), if_pos (by omega)]) | (rw [if_neg (by omega), if_neg (by omega), if_neg (by omega), if_neg (by omega), if_pos (by omega)])
    rw [e]
    exact ⟨rfl, hS, rfl, (fun h => absurd (show (2 : Nat) = 3 from h) (by decide)), (fun _ => ⟨rfl, rfl, rfl⟩), (fun j h6 h7 h8 h9 => by simp [am_up, h6, h7, h8, h9]), (fun i h1 h2 => by funext j; simp [am_up, h1, h2])⟩
set_option maxRecDepth 100000 in
set_option maxHeartbeats 800000 in
theorem zs_X10_strikes_0 {d : Nat} {s : az_S} (hd : 3 ≤ d) {S : zR} {h : Nat} (hS : s 35 = S) (hI : zInv S h) (hh : h ≤ 10000) {zg : Int} (h_zg : az_in zg) : az_R d am_m_X10_strikes 0 (az_ini (am_mL am_m_X10_strikes) [az_r 34, az_i (zg), az_i (0)]) [] (s) (zMq s (zo_strike S zg 0) 2) := by
  have hz := zI_h hI hh
  have hs0 : s 35 0 = ((zn S 0 : Nat) : Int) := by rw [hS, hz.2.1.1]
  have hs1 : s 35 1 = ((zn S 1 : Nat) : Int) := by rw [hS, hz.2.1.2.1]
  have hs2 : s 35 2 = ((zn S 2 : Nat) : Int) := by rw [hS, hz.2.1.2.2]
  have hs3 : s 35 3 = S 3 := by rw [hS]
  have hs5 : s 35 5 = S 5 := by rw [hS]
  refine az_to 0 (pc2 := 0) (lv2 := [some (az_r 34), some (az_i (zg)), some (az_i (0))]) (st2 := []) (s2 := s) rfl ?_
  refine az_to 3 (pc2 := 3) (lv2 := [some (az_r 34), some (az_i (zg)), some (az_i (0))]) (st2 := [az_i (zg), az_r 34, az_r 34]) (s2 := s) rfl ?_
  refine az_clv (v := some (az_i (az_b (0 ≤ zg ∧ zg < ((zn S 2 : Nat) : Int))))) (t := s) (m2 := am_m_X10_isGoat) (as := [az_r 34, az_i (zg)]) (rest := [az_r 34]) 6 rfl rfl ⟨rfl, rfl⟩ (by omega) (zs_X10_isGoat (s := s) (z := zg) (by omega) hS hI hh (by first | assumption | exact ⟨by omega, by omega⟩)) ?_
  refine az_to 0 (pc2 := 6) (lv2 := [some (az_r 34), some (az_i (zg)), some (az_i (0))]) (st2 := [az_i (az_b (0 ≤ zg ∧ zg < ((zn S 2 : Nat) : Int))), az_r 34]) (s2 := s) rfl ?_
  refine az_ifbn 13 9 rfl (by decide) (fun h1 => ?_) (fun h1 => ?_)
  · have h1 : 0 ≤ zg ∧ zg < ((zn S 2 : Nat) : Int) := h1
    obtain ⟨g, rfl⟩ : ∃ n0 : Nat, zg = n0 := ⟨zg.toNat, by omega⟩
    have hzg := zI_g hI hh (g := g) (by omega)
    refine az_to 0 (pc2 := 13) (lv2 := [some (az_r 34), some (az_i (((g : Nat) : Int))), some (az_i (0))]) (st2 := [az_r 34]) (s2 := s) (rfl) ?_
    refine az_to 2 (pc2 := 15) (lv2 := [some (az_r 34), some (az_i (((g : Nat) : Int))), some (az_i (0))]) (st2 := [az_i (1), az_i (0), az_r 34]) (s2 := s) rfl ?_
    refine az_clv (v := some (az_i (0))) (t := am_up s 34 6 (0)) (m2 := am_m_X10_isThrown) (as := [az_r 34, az_i (0), az_i (1)]) (rest := []) 18 rfl rfl ⟨rfl, rfl⟩ (by omega) (zs_X10_isThrown_f (s := s) (v := 1) (by omega) ) ?_
    refine az_to 0 (pc2 := 18) (lv2 := [some (az_r 34), some (az_i (((g : Nat) : Int))), some (az_i (0))]) (st2 := [az_i (0)]) (s2 := am_up s 34 6 (0)) rfl ?_
    refine az_ifc 45 21 rfl (by decide) ⟨by decide, by decide⟩ (fun h => absurd h (by unfold az_cnd; decide)) (fun _ => ?_)
    refine az_to 4 (pc2 := 25) (lv2 := [some (az_r 34), some (az_i (((g : Nat) : Int))), some (az_i (0))]) (st2 := [az_i (2), az_i (((g : Nat) : Int)), az_r 34, az_r 34]) (s2 := am_up s 34 6 (0)) rfl ?_
    refine az_clv (v := some (az_i (zG S g 2))) (t := am_up s 34 6 (0)) (m2 := am_m_X10_ofGoat) (as := [az_r 34, az_i (((g : Nat) : Int)), az_i (2)]) (rest := [az_r 34]) 28 rfl rfl ⟨rfl, rfl⟩ (by omega) (zs_X10_ofGoat (s := am_up s 34 6 (0)) (g := g) (k := 2) (by omega) hS (by omega) (by omega)) ?_
    refine az_to 0 (pc2 := 28) (lv2 := [some (az_r 34), some (az_i (((g : Nat) : Int))), some (az_i (0))]) (st2 := [az_i (zG S g 2), az_r 34]) (s2 := am_up s 34 6 (0)) rfl ?_
    refine az_to 1 (pc2 := 29) (lv2 := [some (az_r 34), some (az_i (((g : Nat) : Int))), some (az_i (0))]) (st2 := [az_i (0), az_i (zG S g 2), az_r 34]) (s2 := am_up s 34 6 (0)) rfl ?_
    refine az_if2 36 32 rfl (by decide) (by first | assumption | exact ⟨by omega, by omega⟩) ⟨by decide, by decide⟩ (fun h2 => ?_) (fun h2 => ?_)
    · have h2 : ¬ zG S g 2 = 0 := h2
      refine az_to 3 (pc2 := 39) (lv2 := [some (az_r 34), some (az_i (((g : Nat) : Int))), some (az_i (0))]) (st2 := [az_i (0), az_i (3), az_i (0), az_r 34]) (s2 := am_up s 34 6 (0)) rfl ?_
      refine az_clv (v := some (az_i (0))) (t := am_up s 34 6 (0)) (m2 := am_m_X10_isRefused) (as := [az_r 34, az_i (0), az_i (3), az_i (0)]) (rest := []) 42 rfl rfl ⟨rfl, rfl⟩ (by omega) (zs_X10_isRefused_f (s := am_up s 34 6 (0)) (v := 3) (w := 0) (by omega) ) ?_
      refine az_to 0 (pc2 := 42) (lv2 := [some (az_r 34), some (az_i (((g : Nat) : Int))), some (az_i (0))]) (st2 := [az_i (0)]) (s2 := am_up s 34 6 (0)) rfl ?_
      refine az_ifc 47 45 rfl (by decide) ⟨by decide, by decide⟩ (fun _ => ?_) (fun h => absurd (show az_cnd _ _ _ by unfold az_cnd; decide) h)
      refine az_to 4 (pc2 := 51) (lv2 := [some (az_r 34), some (az_i (((g : Nat) : Int))), some (az_i (0))]) (st2 := [az_i (0), az_i (2), az_i (((g : Nat) : Int)), az_r 34]) (s2 := am_up s 34 6 (0)) rfl ?_
      refine az_clv (v := none) (t := am_up (am_up s 34 6 (0)) 35 (150 + 5 * g + 2) (0)) (m2 := am_m_X10_setsGoat) (as := [az_r 34, az_i (((g : Nat) : Int)), az_i (2), az_i (0)]) (rest := []) 54 rfl rfl ⟨rfl, rfl⟩ (by omega) (zs_X10_setsGoat (s := am_up s 34 6 (0)) (g := g) (k := 2) (v := 0) (by omega) (by omega) (by omega)) ?_
      refine az_to 0 (pc2 := 54) (lv2 := [some (az_r 34), some (az_i (((g : Nat) : Int))), some (az_i (0))]) (st2 := []) (s2 := am_up (am_up s 34 6 (0)) 35 (150 + 5 * g + 2) (0)) rfl ?_
      have hS2 : (am_up (am_up s 34 6 (0)) 35 (150 + 5 * g + 2) (0)) 35 = zup S (150 + 5 * g + 2) (0) := by rw [← hS]; rfl
      have hI2 : zInv (zup S (150 + 5 * g + 2) (0)) h := zV_strike hI (Nat.le_refl h) (by omega) ⟨by omega, by omega⟩
      refine az_to 1 (pc2 := 55) (lv2 := [some (az_r 34), some (az_i (((g : Nat) : Int))), some (az_i (0))]) (st2 := [az_r 34]) (s2 := am_up (am_up s 34 6 (0)) 35 (150 + 5 * g + 2) (0)) rfl ?_
      refine az_clv (v := some (az_i (zstr (zup S (150 + 5 * g + 2) (0))))) (t := am_up (am_up s 34 6 (0)) 35 (150 + 5 * g + 2) (0)) (m2 := am_m_X10_strikers) (as := [az_r 34]) (rest := []) 58 rfl rfl ⟨rfl, rfl⟩ (by omega) (zs_X10_strikers (s := am_up (am_up s 34 6 (0)) 35 (150 + 5 * g + 2) (0))  (by omega) hS2 hI2 hh) ?_
      refine az_to 0 (pc2 := 58) (lv2 := [some (az_r 34), some (az_i (((g : Nat) : Int))), some (az_i (0))]) (st2 := [az_i (zstr (zup S (150 + 5 * g + 2) (0)))]) (s2 := am_up (am_up s 34 6 (0)) 35 (150 + 5 * g + 2) (0)) rfl ?_
      refine az_retI rfl rfl ?_
      have e : zo_strike S ((g : Nat) : Int) 0 = (0, zstr (zup S (150 + 5 * g + 2) (0)), 0, zup S (150 + 5 * g + 2) (0)) := by
        simp only [zo_strike, Int.toNat_natCast]
        rw [if_neg (by omega), if_neg (by omega)]
      rw [e]
      exact ⟨rfl, hS2, rfl, (fun h => absurd (show (0 : Nat) = 3 from h) (by decide)), (fun _ => ⟨rfl, rfl, rfl⟩), (fun j h6 h7 h8 h9 => by simp [am_up, h6, h7, h8, h9]), (fun i h1 h2 => by funext j; simp [am_up, h1, h2])⟩
    · have h2 : zG S g 2 = 0 := Decidable.not_not.mp h2
      refine az_to 4 (pc2 := 39) (lv2 := [some (az_r 34), some (az_i (((g : Nat) : Int))), some (az_i (0))]) (st2 := [az_i (0), az_i (3), az_i (1), az_r 34]) (s2 := am_up s 34 6 (0)) rfl ?_
      refine az_clv (v := some (az_i (1))) (t := am_up (am_up (am_up (am_up (am_up s 34 6 (0)) 34 7 (3)) 34 8 (0)) 34 9 (0)) 34 6 (9)) (m2 := am_m_X10_isRefused) (as := [az_r 34, az_i (1), az_i (3), az_i (0)]) (rest := []) 42 rfl rfl ⟨rfl, rfl⟩ (by omega) (zs_X10_isRefused_t (s := am_up s 34 6 (0)) (v := 3) (w := 0) (by omega) ) ?_
      refine az_to 0 (pc2 := 42) (lv2 := [some (az_r 34), some (az_i (((g : Nat) : Int))), some (az_i (0))]) (st2 := [az_i (1)]) (s2 := am_up (am_up (am_up (am_up (am_up s 34 6 (0)) 34 7 (3)) 34 8 (0)) 34 9 (0)) 34 6 (9)) rfl ?_
      refine az_ifc 47 45 rfl (by decide) ⟨by decide, by decide⟩ (fun h => absurd h (by unfold az_cnd; decide)) (fun _ => ?_)
      refine az_to 1 (pc2 := 46) (lv2 := [some (az_r 34), some (az_i (((g : Nat) : Int))), some (az_i (0))]) (st2 := [az_i (0)]) (s2 := am_up (am_up (am_up (am_up (am_up s 34 6 (0)) 34 7 (3)) 34 8 (0)) 34 9 (0)) 34 6 (9)) rfl ?_
      refine az_retI rfl rfl ?_
      have e : zo_strike S ((g : Nat) : Int) 0 = (3, 3, 0, S) := by
        simp only [zo_strike, Int.toNat_natCast]
        first | (rw [if_pos (by omega)]) | (rw [if_neg (by omega), if_pos (by omega)]) | (rw [if_neg (by omega), if_neg (by omega), if_pos (by omega)]) | (rw [if_neg (by omega), if_neg (by omega), if_neg (by omega), if_pos (by omega)]) | (rw [if_neg (by omega), if_neg (by omega), if_neg (by omega), if_neg (by omega), if_pos (by omega)])
      rw [e]
      exact ⟨rfl, hS, rfl, (fun _ => ⟨rfl, rfl, rfl⟩), (fun h => absurd rfl h), (fun j h6 h7 h8 h9 => by simp [am_up, h6, h7, h8, h9]), (fun i h1 h2 => by funext j; simp [am_up, h1, h2])⟩
  · have h1 : ¬ (0 ≤ zg ∧ zg < ((zn S 2 : Nat) : Int)) := h1
    refine az_to 3 (pc2 := 15) (lv2 := [some (az_r 34), some (az_i (zg)), some (az_i (0))]) (st2 := [az_i (1), az_i (1), az_r 34]) (s2 := s) rfl ?_
    refine az_clv (v := some (az_i (1))) (t := am_up s 34 6 (1)) (m2 := am_m_X10_isThrown) (as := [az_r 34, az_i (1), az_i (1)]) (rest := []) 18 rfl rfl ⟨rfl, rfl⟩ (by omega) (zs_X10_isThrown_t (s := s) (v := 1) (by omega) ) ?_
    refine az_to 0 (pc2 := 18) (lv2 := [some (az_r 34), some (az_i (zg)), some (az_i (0))]) (st2 := [az_i (1)]) (s2 := am_up s 34 6 (1)) rfl ?_
    refine az_ifc 45 21 rfl (by decide) ⟨by decide, by decide⟩ (fun _ => ?_) (fun h => absurd (show az_cnd _ _ _ by unfold az_cnd; decide) h)
    refine az_to 1 (pc2 := 46) (lv2 := [some (az_r 34), some (az_i (zg)), some (az_i (0))]) (st2 := [az_i (0)]) (s2 := am_up s 34 6 (1)) rfl ?_
    refine az_retI rfl rfl ?_
    have e : zo_strike S zg 0 = (1, 0, 0, S) := by
      simp only [zo_strike, Int.toNat_natCast]
      first | (rw [if_pos (by omega)]) | (rw [if_neg (by omega), if_pos (by omega)]) | (rw [if_neg (by omega), if_neg (by omega), if_pos (by omega)]) | (rw [if_neg (by omega), if_neg (by omega), if_neg (by omega), if_pos (by omega)]) | (rw [if_neg (by omega), if_neg (by omega), if_neg (by omega), if_neg (by omega), if_pos (by omega)])
    rw [e]
    exact ⟨rfl, hS, rfl, (fun h => absurd (show (1 : Nat) = 3 from h) (by decide)), (fun _ => ⟨rfl, rfl, rfl⟩), (fun j h6 h7 h8 h9 => by simp [am_up, h6, h7, h8, h9]), (fun i h1 h2 => by funext j; simp [am_up, h1, h2])⟩
set_option maxRecDepth 100000 in
set_option maxHeartbeats 800000 in
theorem zs_X10_strikes_1 {d : Nat} {s : az_S} (hd : 3 ≤ d) {S : zR} {h : Nat} (hS : s 35 = S) (hI : zInv S h) (hh : h ≤ 10000) {zg : Int} (h_zg : az_in zg) : az_R d am_m_X10_strikes 0 (az_ini (am_mL am_m_X10_strikes) [az_r 34, az_i (zg), az_i (1)]) [] (s) (zMq s (zo_strike S zg 1) 2) := by
  have hz := zI_h hI hh
  have hs0 : s 35 0 = ((zn S 0 : Nat) : Int) := by rw [hS, hz.2.1.1]
  have hs1 : s 35 1 = ((zn S 1 : Nat) : Int) := by rw [hS, hz.2.1.2.1]
  have hs2 : s 35 2 = ((zn S 2 : Nat) : Int) := by rw [hS, hz.2.1.2.2]
  have hs3 : s 35 3 = S 3 := by rw [hS]
  have hs5 : s 35 5 = S 5 := by rw [hS]
  refine az_to 0 (pc2 := 0) (lv2 := [some (az_r 34), some (az_i (zg)), some (az_i (1))]) (st2 := []) (s2 := s) rfl ?_
  refine az_to 3 (pc2 := 3) (lv2 := [some (az_r 34), some (az_i (zg)), some (az_i (1))]) (st2 := [az_i (zg), az_r 34, az_r 34]) (s2 := s) rfl ?_
  refine az_clv (v := some (az_i (az_b (0 ≤ zg ∧ zg < ((zn S 2 : Nat) : Int))))) (t := s) (m2 := am_m_X10_isGoat) (as := [az_r 34, az_i (zg)]) (rest := [az_r 34]) 6 rfl rfl ⟨rfl, rfl⟩ (by omega) (zs_X10_isGoat (s := s) (z := zg) (by omega) hS hI hh (by first | assumption | exact ⟨by omega, by omega⟩)) ?_
  refine az_to 0 (pc2 := 6) (lv2 := [some (az_r 34), some (az_i (zg)), some (az_i (1))]) (st2 := [az_i (az_b (0 ≤ zg ∧ zg < ((zn S 2 : Nat) : Int))), az_r 34]) (s2 := s) rfl ?_
  refine az_ifbn 13 9 rfl (by decide) (fun h1 => ?_) (fun h1 => ?_)
  · have h1 : 0 ≤ zg ∧ zg < ((zn S 2 : Nat) : Int) := h1
    obtain ⟨g, rfl⟩ : ∃ n0 : Nat, zg = n0 := ⟨zg.toNat, by omega⟩
    have hzg := zI_g hI hh (g := g) (by omega)
    refine az_to 0 (pc2 := 13) (lv2 := [some (az_r 34), some (az_i (((g : Nat) : Int))), some (az_i (1))]) (st2 := [az_r 34]) (s2 := s) (rfl) ?_
    refine az_to 2 (pc2 := 15) (lv2 := [some (az_r 34), some (az_i (((g : Nat) : Int))), some (az_i (1))]) (st2 := [az_i (1), az_i (0), az_r 34]) (s2 := s) rfl ?_
    refine az_clv (v := some (az_i (0))) (t := am_up s 34 6 (0)) (m2 := am_m_X10_isThrown) (as := [az_r 34, az_i (0), az_i (1)]) (rest := []) 18 rfl rfl ⟨rfl, rfl⟩ (by omega) (zs_X10_isThrown_f (s := s) (v := 1) (by omega) ) ?_
    refine az_to 0 (pc2 := 18) (lv2 := [some (az_r 34), some (az_i (((g : Nat) : Int))), some (az_i (1))]) (st2 := [az_i (0)]) (s2 := am_up s 34 6 (0)) rfl ?_
    refine az_ifc 45 21 rfl (by decide) ⟨by decide, by decide⟩ (fun h => absurd h (by unfold az_cnd; decide)) (fun _ => ?_)
    refine az_to 4 (pc2 := 25) (lv2 := [some (az_r 34), some (az_i (((g : Nat) : Int))), some (az_i (1))]) (st2 := [az_i (2), az_i (((g : Nat) : Int)), az_r 34, az_r 34]) (s2 := am_up s 34 6 (0)) rfl ?_
    refine az_clv (v := some (az_i (zG S g 2))) (t := am_up s 34 6 (0)) (m2 := am_m_X10_ofGoat) (as := [az_r 34, az_i (((g : Nat) : Int)), az_i (2)]) (rest := [az_r 34]) 28 rfl rfl ⟨rfl, rfl⟩ (by omega) (zs_X10_ofGoat (s := am_up s 34 6 (0)) (g := g) (k := 2) (by omega) hS (by omega) (by omega)) ?_
    refine az_to 0 (pc2 := 28) (lv2 := [some (az_r 34), some (az_i (((g : Nat) : Int))), some (az_i (1))]) (st2 := [az_i (zG S g 2), az_r 34]) (s2 := am_up s 34 6 (0)) rfl ?_
    refine az_to 1 (pc2 := 29) (lv2 := [some (az_r 34), some (az_i (((g : Nat) : Int))), some (az_i (1))]) (st2 := [az_i (1), az_i (zG S g 2), az_r 34]) (s2 := am_up s 34 6 (0)) rfl ?_
    refine az_if2 36 32 rfl (by decide) (by first | assumption | exact ⟨by omega, by omega⟩) ⟨by decide, by decide⟩ (fun h2 => ?_) (fun h2 => ?_)
    · have h2 : ¬ zG S g 2 = 1 := h2
      refine az_to 3 (pc2 := 39) (lv2 := [some (az_r 34), some (az_i (((g : Nat) : Int))), some (az_i (1))]) (st2 := [az_i (1), az_i (3), az_i (0), az_r 34]) (s2 := am_up s 34 6 (0)) rfl ?_
      refine az_clv (v := some (az_i (0))) (t := am_up s 34 6 (0)) (m2 := am_m_X10_isRefused) (as := [az_r 34, az_i (0), az_i (3), az_i (1)]) (rest := []) 42 rfl rfl ⟨rfl, rfl⟩ (by omega) (zs_X10_isRefused_f (s := am_up s 34 6 (0)) (v := 3) (w := 1) (by omega) ) ?_
      refine az_to 0 (pc2 := 42) (lv2 := [some (az_r 34), some (az_i (((g : Nat) : Int))), some (az_i (1))]) (st2 := [az_i (0)]) (s2 := am_up s 34 6 (0)) rfl ?_
      refine az_ifc 47 45 rfl (by decide) ⟨by decide, by decide⟩ (fun _ => ?_) (fun h => absurd (show az_cnd _ _ _ by unfold az_cnd; decide) h)
      refine az_to 4 (pc2 := 51) (lv2 := [some (az_r 34), some (az_i (((g : Nat) : Int))), some (az_i (1))]) (st2 := [az_i (1), az_i (2), az_i (((g : Nat) : Int)), az_r 34]) (s2 := am_up s 34 6 (0)) rfl ?_
      refine az_clv (v := none) (t := am_up (am_up s 34 6 (0)) 35 (150 + 5 * g + 2) (1)) (m2 := am_m_X10_setsGoat) (as := [az_r 34, az_i (((g : Nat) : Int)), az_i (2), az_i (1)]) (rest := []) 54 rfl rfl ⟨rfl, rfl⟩ (by omega) (zs_X10_setsGoat (s := am_up s 34 6 (0)) (g := g) (k := 2) (v := 1) (by omega) (by omega) (by omega)) ?_
      refine az_to 0 (pc2 := 54) (lv2 := [some (az_r 34), some (az_i (((g : Nat) : Int))), some (az_i (1))]) (st2 := []) (s2 := am_up (am_up s 34 6 (0)) 35 (150 + 5 * g + 2) (1)) rfl ?_
      have hS2 : (am_up (am_up s 34 6 (0)) 35 (150 + 5 * g + 2) (1)) 35 = zup S (150 + 5 * g + 2) (1) := by rw [← hS]; rfl
      have hI2 : zInv (zup S (150 + 5 * g + 2) (1)) h := zV_strike hI (Nat.le_refl h) (by omega) ⟨by omega, by omega⟩
      refine az_to 1 (pc2 := 55) (lv2 := [some (az_r 34), some (az_i (((g : Nat) : Int))), some (az_i (1))]) (st2 := [az_r 34]) (s2 := am_up (am_up s 34 6 (0)) 35 (150 + 5 * g + 2) (1)) rfl ?_
      refine az_clv (v := some (az_i (zstr (zup S (150 + 5 * g + 2) (1))))) (t := am_up (am_up s 34 6 (0)) 35 (150 + 5 * g + 2) (1)) (m2 := am_m_X10_strikers) (as := [az_r 34]) (rest := []) 58 rfl rfl ⟨rfl, rfl⟩ (by omega) (zs_X10_strikers (s := am_up (am_up s 34 6 (0)) 35 (150 + 5 * g + 2) (1))  (by omega) hS2 hI2 hh) ?_
      refine az_to 0 (pc2 := 58) (lv2 := [some (az_r 34), some (az_i (((g : Nat) : Int))), some (az_i (1))]) (st2 := [az_i (zstr (zup S (150 + 5 * g + 2) (1)))]) (s2 := am_up (am_up s 34 6 (0)) 35 (150 + 5 * g + 2) (1)) rfl ?_
      refine az_retI rfl rfl ?_
      have e : zo_strike S ((g : Nat) : Int) 1 = (0, zstr (zup S (150 + 5 * g + 2) (1)), 0, zup S (150 + 5 * g + 2) (1)) := by
        simp only [zo_strike, Int.toNat_natCast]
        rw [if_neg (by omega), if_neg (by omega)]
      rw [e]
      exact ⟨rfl, hS2, rfl, (fun h => absurd (show (0 : Nat) = 3 from h) (by decide)), (fun _ => ⟨rfl, rfl, rfl⟩), (fun j h6 h7 h8 h9 => by simp [am_up, h6, h7, h8, h9]), (fun i h1 h2 => by funext j; simp [am_up, h1, h2])⟩
    · have h2 : zG S g 2 = 1 := Decidable.not_not.mp h2
      refine az_to 4 (pc2 := 39) (lv2 := [some (az_r 34), some (az_i (((g : Nat) : Int))), some (az_i (1))]) (st2 := [az_i (1), az_i (3), az_i (1), az_r 34]) (s2 := am_up s 34 6 (0)) rfl ?_
      refine az_clv (v := some (az_i (1))) (t := am_up (am_up (am_up (am_up (am_up s 34 6 (0)) 34 7 (3)) 34 8 (1)) 34 9 (0)) 34 6 (9)) (m2 := am_m_X10_isRefused) (as := [az_r 34, az_i (1), az_i (3), az_i (1)]) (rest := []) 42 rfl rfl ⟨rfl, rfl⟩ (by omega) (zs_X10_isRefused_t (s := am_up s 34 6 (0)) (v := 3) (w := 1) (by omega) ) ?_
      refine az_to 0 (pc2 := 42) (lv2 := [some (az_r 34), some (az_i (((g : Nat) : Int))), some (az_i (1))]) (st2 := [az_i (1)]) (s2 := am_up (am_up (am_up (am_up (am_up s 34 6 (0)) 34 7 (3)) 34 8 (1)) 34 9 (0)) 34 6 (9)) rfl ?_
      refine az_ifc 47 45 rfl (by decide) ⟨by decide, by decide⟩ (fun h => absurd h (by unfold az_cnd; decide)) (fun _ => ?_)
      refine az_to 1 (pc2 := 46) (lv2 := [some (az_r 34), some (az_i (((g : Nat) : Int))), some (az_i (1))]) (st2 := [az_i (0)]) (s2 := am_up (am_up (am_up (am_up (am_up s 34 6 (0)) 34 7 (3)) 34 8 (1)) 34 9 (0)) 34 6 (9)) rfl ?_
      refine az_retI rfl rfl ?_
      have e : zo_strike S ((g : Nat) : Int) 1 = (3, 3, 1, S) := by
        simp only [zo_strike, Int.toNat_natCast]
        first | (rw [if_pos (by omega)]) | (rw [if_neg (by omega), if_pos (by omega)]) | (rw [if_neg (by omega), if_neg (by omega), if_pos (by omega)]) | (rw [if_neg (by omega), if_neg (by omega), if_neg (by omega), if_pos (by omega)]) | (rw [if_neg (by omega), if_neg (by omega), if_neg (by omega), if_neg (by omega), if_pos (by omega)])
      rw [e]
      exact ⟨rfl, hS, rfl, (fun _ => ⟨rfl, rfl, rfl⟩), (fun h => absurd rfl h), (fun j h6 h7 h8 h9 => by simp [am_up, h6, h7, h8, h9]), (fun i h1 h2 => by funext j; simp [am_up, h1, h2])⟩
  · have h1 : ¬ (0 ≤ zg ∧ zg < ((zn S 2 : Nat) : Int)) := h1
    refine az_to 3 (pc2 := 15) (lv2 := [some (az_r 34), some (az_i (zg)), some (az_i (1))]) (st2 := [az_i (1), az_i (1), az_r 34]) (s2 := s) rfl ?_
    refine az_clv (v := some (az_i (1))) (t := am_up s 34 6 (1)) (m2 := am_m_X10_isThrown) (as := [az_r 34, az_i (1), az_i (1)]) (rest := []) 18 rfl rfl ⟨rfl, rfl⟩ (by omega) (zs_X10_isThrown_t (s := s) (v := 1) (by omega) ) ?_
    refine az_to 0 (pc2 := 18) (lv2 := [some (az_r 34), some (az_i (zg)), some (az_i (1))]) (st2 := [az_i (1)]) (s2 := am_up s 34 6 (1)) rfl ?_
    refine az_ifc 45 21 rfl (by decide) ⟨by decide, by decide⟩ (fun _ => ?_) (fun h => absurd (show az_cnd _ _ _ by unfold az_cnd; decide) h)
    refine az_to 1 (pc2 := 46) (lv2 := [some (az_r 34), some (az_i (zg)), some (az_i (1))]) (st2 := [az_i (0)]) (s2 := am_up s 34 6 (1)) rfl ?_
    refine az_retI rfl rfl ?_
    have e : zo_strike S zg 1 = (1, 0, 0, S) := by
      simp only [zo_strike, Int.toNat_natCast]
      first | (rw [if_pos (by omega)]) | (rw [if_neg (by omega), if_pos (by omega)]) | (rw [if_neg (by omega), if_neg (by omega), if_pos (by omega)]) | (rw [if_neg (by omega), if_neg (by omega), if_neg (by omega), if_pos (by omega)]) | (rw [if_neg (by omega), if_neg (by omega), if_neg (by omega), if_neg (by omega), if_pos (by omega)])
    rw [e]
    exact ⟨rfl, hS, rfl, (fun h => absurd (show (1 : Nat) = 3 from h) (by decide)), (fun _ => ⟨rfl, rfl, rfl⟩), (fun j h6 h7 h8 h9 => by simp [am_up, h6, h7, h8, h9]), (fun i h1 h2 => by funext j; simp [am_up, h1, h2])⟩
set_option maxRecDepth 100000 in
set_option maxHeartbeats 800000 in
theorem zs_X10_disputesAt {d : Nat} {s : az_S} (hd : 4 ≤ d) {S : zR} {h : Nat} (hS : s 35 = S) (hI : zInv S h) (hh : h ≤ 10000) {zg : Int} {zb : Int} (h_zg : az_in zg) (h_zb : az_in zb) : az_R d am_m_X10_disputesAt 0 (az_ini (am_mL am_m_X10_disputesAt) [az_r 34, az_i (zg), az_i (zb)]) [] (s) (zMq s (zo_dispute S zg zb) 2) := by
  have hz := zI_h hI hh
  have hs0 : s 35 0 = ((zn S 0 : Nat) : Int) := by rw [hS, hz.2.1.1]
  have hs1 : s 35 1 = ((zn S 1 : Nat) : Int) := by rw [hS, hz.2.1.2.1]
  have hs2 : s 35 2 = ((zn S 2 : Nat) : Int) := by rw [hS, hz.2.1.2.2]
  have hs3 : s 35 3 = S 3 := by rw [hS]
  have hs5 : s 35 5 = S 5 := by rw [hS]
  refine az_to 0 (pc2 := 0) (lv2 := [some (az_r 34), some (az_i (zg)), some (az_i (zb))]) (st2 := []) (s2 := s) rfl ?_
  refine az_to 3 (pc2 := 3) (lv2 := [some (az_r 34), some (az_i (zg)), some (az_i (zb))]) (st2 := [az_i (zg), az_r 34, az_r 34]) (s2 := s) rfl ?_
  refine az_clv (v := some (az_i (az_b (0 ≤ zg ∧ zg < ((zn S 2 : Nat) : Int))))) (t := s) (m2 := am_m_X10_isGoat) (as := [az_r 34, az_i (zg)]) (rest := [az_r 34]) 6 rfl rfl ⟨rfl, rfl⟩ (by omega) (zs_X10_isGoat (s := s) (z := zg) (by omega) hS hI hh (by first | assumption | exact ⟨by omega, by omega⟩)) ?_
  refine az_to 0 (pc2 := 6) (lv2 := [some (az_r 34), some (az_i (zg)), some (az_i (zb))]) (st2 := [az_i (az_b (0 ≤ zg ∧ zg < ((zn S 2 : Nat) : Int))), az_r 34]) (s2 := s) rfl ?_
  refine az_ifbe 17 9 rfl (by decide) (fun h1 => ?_) (fun h1 => ?_)
  · have h1 : ¬ (0 ≤ zg ∧ zg < ((zn S 2 : Nat) : Int)) := h1
    refine az_to 3 (pc2 := 23) (lv2 := [some (az_r 34), some (az_i (zg)), some (az_i (zb))]) (st2 := [az_i (1), az_i (1), az_r 34]) (s2 := s) rfl ?_
    refine az_clv (v := some (az_i (1))) (t := am_up s 34 6 (1)) (m2 := am_m_X10_isThrown) (as := [az_r 34, az_i (1), az_i (1)]) (rest := []) 26 rfl rfl ⟨rfl, rfl⟩ (by omega) (zs_X10_isThrown_t (s := s) (v := 1) (by omega) ) ?_
    refine az_to 0 (pc2 := 26) (lv2 := [some (az_r 34), some (az_i (zg)), some (az_i (zb))]) (st2 := [az_i (1)]) (s2 := am_up s 34 6 (1)) rfl ?_
    refine az_ifc 60 29 rfl (by decide) ⟨by decide, by decide⟩ (fun _ => ?_) (fun h => absurd (show az_cnd _ _ _ by unfold az_cnd; decide) h)
    refine az_to 1 (pc2 := 61) (lv2 := [some (az_r 34), some (az_i (zg)), some (az_i (zb))]) (st2 := [az_i (0)]) (s2 := am_up s 34 6 (1)) rfl ?_
    refine az_retI rfl rfl ?_
    have e : zo_dispute S zg zb = (1, 0, 0, S) := by
      simp only [zo_dispute, Int.toNat_natCast]
      first | (rw [if_pos (by omega)]) | (rw [if_neg (by omega), if_pos (by omega)]) | (rw [if_neg (by omega), if_neg (by omega), if_pos (by omega)]) | (rw [if_neg (by omega), if_neg (by omega), if_neg (by omega), if_pos (by omega)]) | (rw [if_neg (by omega), if_neg (by omega), if_neg (by omega), if_neg (by omega), if_pos (by omega)])
    rw [e]
    exact ⟨rfl, hS, rfl, (fun h => absurd (show (1 : Nat) = 3 from h) (by decide)), (fun _ => ⟨rfl, rfl, rfl⟩), (fun j h6 h7 h8 h9 => by simp [am_up, h6, h7, h8, h9]), (fun i h1 h2 => by funext j; simp [am_up, h1, h2])⟩
  · have h1 : 0 ≤ zg ∧ zg < ((zn S 2 : Nat) : Int) := h1
    obtain ⟨g, rfl⟩ : ∃ n0 : Nat, zg = n0 := ⟨zg.toNat, by omega⟩
    have hzg := zI_g hI hh (g := g) (by omega)
    refine az_to 0 (pc2 := 9) (lv2 := [some (az_r 34), some (az_i (((g : Nat) : Int))), some (az_i (zb))]) (st2 := [az_r 34]) (s2 := s) (rfl) ?_
    refine az_to 2 (pc2 := 11) (lv2 := [some (az_r 34), some (az_i (((g : Nat) : Int))), some (az_i (zb))]) (st2 := [az_i (zb), az_r 34, az_r 34]) (s2 := s) rfl ?_
    refine az_clv (v := some (az_i (az_b (0 ≤ zb ∧ zb < ((zn S 0 : Nat) : Int))))) (t := s) (m2 := am_m_X10_isBridge) (as := [az_r 34, az_i (zb)]) (rest := [az_r 34]) 14 rfl rfl ⟨rfl, rfl⟩ (by omega) (zs_X10_isBridge (s := s) (z := zb) (by omega) hS hI hh (by first | assumption | exact ⟨by omega, by omega⟩)) ?_
    refine az_to 0 (pc2 := 14) (lv2 := [some (az_r 34), some (az_i (((g : Nat) : Int))), some (az_i (zb))]) (st2 := [az_i (az_b (0 ≤ zb ∧ zb < ((zn S 0 : Nat) : Int))), az_r 34]) (s2 := s) rfl ?_
    refine az_ifbn 21 17 rfl (by decide) (fun h2 => ?_) (fun h2 => ?_)
    · have h2 : 0 ≤ zb ∧ zb < ((zn S 0 : Nat) : Int) := h2
      obtain ⟨b, rfl⟩ : ∃ n0 : Nat, zb = n0 := ⟨zb.toNat, by omega⟩
      have hzb := zI_b hI hh (b := b) (by omega)
      refine az_to 0 (pc2 := 21) (lv2 := [some (az_r 34), some (az_i (((g : Nat) : Int))), some (az_i (((b : Nat) : Int)))]) (st2 := [az_r 34]) (s2 := s) (rfl) ?_
      refine az_to 2 (pc2 := 23) (lv2 := [some (az_r 34), some (az_i (((g : Nat) : Int))), some (az_i (((b : Nat) : Int)))]) (st2 := [az_i (1), az_i (0), az_r 34]) (s2 := s) rfl ?_
      refine az_clv (v := some (az_i (0))) (t := am_up s 34 6 (0)) (m2 := am_m_X10_isThrown) (as := [az_r 34, az_i (0), az_i (1)]) (rest := []) 26 rfl rfl ⟨rfl, rfl⟩ (by omega) (zs_X10_isThrown_f (s := s) (v := 1) (by omega) ) ?_
      refine az_to 0 (pc2 := 26) (lv2 := [some (az_r 34), some (az_i (((g : Nat) : Int))), some (az_i (((b : Nat) : Int)))]) (st2 := [az_i (0)]) (s2 := am_up s 34 6 (0)) rfl ?_
      refine az_ifc 60 29 rfl (by decide) ⟨by decide, by decide⟩ (fun h => absurd h (by unfold az_cnd; decide)) (fun _ => ?_)
      refine az_to 3 (pc2 := 32) (lv2 := [some (az_r 34), some (az_i (((g : Nat) : Int))), some (az_i (((b : Nat) : Int)))]) (st2 := [az_i (((b : Nat) : Int)), az_r 34, az_r 34]) (s2 := am_up s 34 6 (0)) rfl ?_
      refine az_clv (v := some (az_i (zat S b))) (t := am_up s 34 6 (0)) (m2 := am_m_X10_trollAt) (as := [az_r 34, az_i (((b : Nat) : Int))]) (rest := [az_r 34]) 35 rfl rfl ⟨rfl, rfl⟩ (by omega) (zs_X10_trollAt (s := am_up s 34 6 (0)) (b := b) (by omega) hS hI hh (by omega)) ?_
      refine az_to 0 (pc2 := 35) (lv2 := [some (az_r 34), some (az_i (((g : Nat) : Int))), some (az_i (((b : Nat) : Int)))]) (st2 := [az_i (zat S b), az_r 34]) (s2 := am_up s 34 6 (0)) rfl ?_
      refine az_ifc 42 38 rfl (by decide) (by first | assumption | exact ⟨by omega, by omega⟩) (fun h3 => ?_) (fun h3 => ?_)
      · have h3 : 0 ≤ zat S b := h3
        refine az_to 3 (pc2 := 46) (lv2 := [some (az_r 34), some (az_i (((g : Nat) : Int))), some (az_i (((b : Nat) : Int)))]) (st2 := [az_i (((b : Nat) : Int)), az_i (9), az_i (0), az_r 34]) (s2 := am_up s 34 6 (0)) rfl ?_
        refine az_clv (v := some (az_i (0))) (t := am_up s 34 6 (0)) (m2 := am_m_X10_isRefused) (as := [az_r 34, az_i (0), az_i (9), az_i (((b : Nat) : Int))]) (rest := []) 49 rfl rfl ⟨rfl, rfl⟩ (by omega) (zs_X10_isRefused_f (s := am_up s 34 6 (0)) (v := 9) (w := (((b : Nat) : Int))) (by omega) ) ?_
        refine az_to 0 (pc2 := 49) (lv2 := [some (az_r 34), some (az_i (((g : Nat) : Int))), some (az_i (((b : Nat) : Int)))]) (st2 := [az_i (0)]) (s2 := am_up s 34 6 (0)) rfl ?_
        refine az_ifc 60 52 rfl (by decide) ⟨by decide, by decide⟩ (fun h => absurd h (by unfold az_cnd; decide)) (fun _ => ?_)
        refine az_to 2 (pc2 := 54) (lv2 := [some (az_r 34), some (az_i (((g : Nat) : Int))), some (az_i (((b : Nat) : Int)))]) (st2 := [az_i (((b : Nat) : Int)), az_r 34]) (s2 := am_up s 34 6 (0)) rfl ?_
        by_cases h4 : 0 ≤ zB S b 5
        · skip
          refine az_clv (v := some (az_i (1))) (t := am_up (am_up (am_up (am_up (am_up s 34 6 (0)) 34 7 (10)) 34 8 (zB S b 5)) 34 9 (0)) 34 6 (9)) (m2 := am_m_X10_isDisputed) (as := [az_r 34, az_i (((b : Nat) : Int))]) (rest := []) 57 rfl rfl ⟨rfl, rfl⟩ (by omega) (zs_X10_isDisputed_t (s := am_up s 34 6 (0)) (b := b) (by omega) hS hI hh (by omega) (by first | assumption | omega)) ?_
          refine az_to 0 (pc2 := 57) (lv2 := [some (az_r 34), some (az_i (((g : Nat) : Int))), some (az_i (((b : Nat) : Int)))]) (st2 := [az_i (1)]) (s2 := am_up (am_up (am_up (am_up (am_up s 34 6 (0)) 34 7 (10)) 34 8 (zB S b 5)) 34 9 (0)) 34 6 (9)) rfl ?_
          refine az_ifc 62 60 rfl (by decide) ⟨by decide, by decide⟩ (fun h => absurd h (by unfold az_cnd; decide)) (fun _ => ?_)
          refine az_to 1 (pc2 := 61) (lv2 := [some (az_r 34), some (az_i (((g : Nat) : Int))), some (az_i (((b : Nat) : Int)))]) (st2 := [az_i (0)]) (s2 := am_up (am_up (am_up (am_up (am_up s 34 6 (0)) 34 7 (10)) 34 8 (zB S b 5)) 34 9 (0)) 34 6 (9)) rfl ?_
          refine az_retI rfl rfl ?_
          have e : zo_dispute S ((g : Nat) : Int) ((b : Nat) : Int) = (3, 10, zB S b 5, S) := by
            simp only [zo_dispute, Int.toNat_natCast]
            first | (rw [if_pos (by omega)]) | (rw [if_neg (by omega), if_pos (by omega)]) | (rw [if_neg (by omega), if_neg (by omega), if_pos (by omega)]) | (rw [if_neg (by omega), if_neg (by omega), if_neg (by omega), if_pos (by omega)]) | (rw [if_neg (by omega), if_neg (by omega), if_neg (by omega), if_neg (by omega), if_pos (by omega)])
          rw [e]
          exact ⟨rfl, hS, rfl, (fun _ => ⟨rfl, rfl, rfl⟩), (fun h => absurd rfl h), (fun j h6 h7 h8 h9 => by simp [am_up, h6, h7, h8, h9]), (fun i h1 h2 => by funext j; simp [am_up, h1, h2])⟩
        · skip
          refine az_clv (v := some (az_i (0))) (t := am_up s 34 6 (0)) (m2 := am_m_X10_isDisputed) (as := [az_r 34, az_i (((b : Nat) : Int))]) (rest := []) 57 rfl rfl ⟨rfl, rfl⟩ (by omega) (zs_X10_isDisputed_f (s := am_up s 34 6 (0)) (b := b) (by omega) hS hI hh (by omega) (by first | assumption | omega)) ?_
          refine az_to 0 (pc2 := 57) (lv2 := [some (az_r 34), some (az_i (((g : Nat) : Int))), some (az_i (((b : Nat) : Int)))]) (st2 := [az_i (0)]) (s2 := am_up s 34 6 (0)) rfl ?_
          refine az_ifc 62 60 rfl (by decide) ⟨by decide, by decide⟩ (fun _ => ?_) (fun h => absurd (show az_cnd _ _ _ by unfold az_cnd; decide) h)
          refine az_to 4 (pc2 := 66) (lv2 := [some (az_r 34), some (az_i (((g : Nat) : Int))), some (az_i (((b : Nat) : Int)))]) (st2 := [az_i (((g : Nat) : Int)), az_i (5), az_i (((b : Nat) : Int)), az_r 34]) (s2 := am_up s 34 6 (0)) rfl ?_
          refine az_clv (v := none) (t := am_up (am_up s 34 6 (0)) 35 (6 + 12 * b + 5) ((((g : Nat) : Int)))) (m2 := am_m_X10_sets) (as := [az_r 34, az_i (((b : Nat) : Int)), az_i (5), az_i (((g : Nat) : Int))]) (rest := []) 69 rfl rfl ⟨rfl, rfl⟩ (by omega) (zs_X10_sets (s := am_up s 34 6 (0)) (b := b) (k := 5) (v := (((g : Nat) : Int))) (by omega) (by omega) (by omega)) ?_
          refine az_to 0 (pc2 := 69) (lv2 := [some (az_r 34), some (az_i (((g : Nat) : Int))), some (az_i (((b : Nat) : Int)))]) (st2 := []) (s2 := am_up (am_up s 34 6 (0)) 35 (6 + 12 * b + 5) ((((g : Nat) : Int)))) rfl ?_
          have hS2 : (am_up (am_up s 34 6 (0)) 35 (6 + 12 * b + 5) ((((g : Nat) : Int)))) 35 = zup S (6 + 12 * b + 5) ((g : Nat) : Int) := by rw [← hS]; rfl
          have hI2 : zInv (zup S (6 + 12 * b + 5) ((g : Nat) : Int)) h := zV_disp hI (Nat.le_refl h) (by omega) ⟨by omega, by omega, fun _ => by omega⟩
          refine az_to 1 (pc2 := 70) (lv2 := [some (az_r 34), some (az_i (((g : Nat) : Int))), some (az_i (((b : Nat) : Int)))]) (st2 := [az_r 34]) (s2 := am_up (am_up s 34 6 (0)) 35 (6 + 12 * b + 5) ((((g : Nat) : Int)))) rfl ?_
          refine az_clv (v := some (az_i (zcd (zup S (6 + 12 * b + 5) ((g : Nat) : Int))))) (t := am_up (am_up s 34 6 (0)) 35 (6 + 12 * b + 5) ((((g : Nat) : Int)))) (m2 := am_m_X10_disputes) (as := [az_r 34]) (rest := []) 73 rfl rfl ⟨rfl, rfl⟩ (by omega) (zs_X10_disputes (s := am_up (am_up s 34 6 (0)) 35 (6 + 12 * b + 5) ((((g : Nat) : Int))))  (by omega) hS2 hI2 hh) ?_
          refine az_to 0 (pc2 := 73) (lv2 := [some (az_r 34), some (az_i (((g : Nat) : Int))), some (az_i (((b : Nat) : Int)))]) (st2 := [az_i (zcd (zup S (6 + 12 * b + 5) ((g : Nat) : Int)))]) (s2 := am_up (am_up s 34 6 (0)) 35 (6 + 12 * b + 5) ((((g : Nat) : Int)))) rfl ?_
          refine az_retI rfl rfl ?_
          have e : zo_dispute S ((g : Nat) : Int) ((b : Nat) : Int) = (0, zcd (zup S (6 + 12 * b + 5) ((g : Nat) : Int)), 0, zup S (6 + 12 * b + 5) ((g : Nat) : Int)) := by
            simp only [zo_dispute, Int.toNat_natCast]
            rw [if_neg (by omega), if_neg (by omega), if_neg (by omega)]
          rw [e]
          exact ⟨rfl, hS2, rfl, (fun h => absurd (show (0 : Nat) = 3 from h) (by decide)), (fun _ => ⟨rfl, rfl, rfl⟩), (fun j h6 h7 h8 h9 => by simp [am_up, h6, h7, h8, h9]), (fun i h1 h2 => by funext j; simp [am_up, h1, h2])⟩
      · have h3 : ¬ (0 ≤ zat S b) := h3
        refine az_to 4 (pc2 := 46) (lv2 := [some (az_r 34), some (az_i (((g : Nat) : Int))), some (az_i (((b : Nat) : Int)))]) (st2 := [az_i (((b : Nat) : Int)), az_i (9), az_i (1), az_r 34]) (s2 := am_up s 34 6 (0)) rfl ?_
        refine az_clv (v := some (az_i (1))) (t := am_up (am_up (am_up (am_up (am_up s 34 6 (0)) 34 7 (9)) 34 8 ((((b : Nat) : Int)))) 34 9 (0)) 34 6 (9)) (m2 := am_m_X10_isRefused) (as := [az_r 34, az_i (1), az_i (9), az_i (((b : Nat) : Int))]) (rest := []) 49 rfl rfl ⟨rfl, rfl⟩ (by omega) (zs_X10_isRefused_t (s := am_up s 34 6 (0)) (v := 9) (w := (((b : Nat) : Int))) (by omega) ) ?_
        refine az_to 0 (pc2 := 49) (lv2 := [some (az_r 34), some (az_i (((g : Nat) : Int))), some (az_i (((b : Nat) : Int)))]) (st2 := [az_i (1)]) (s2 := am_up (am_up (am_up (am_up (am_up s 34 6 (0)) 34 7 (9)) 34 8 ((((b : Nat) : Int)))) 34 9 (0)) 34 6 (9)) rfl ?_
        refine az_ifc 60 52 rfl (by decide) ⟨by decide, by decide⟩ (fun _ => ?_) (fun h => absurd (show az_cnd _ _ _ by unfold az_cnd; decide) h)
        refine az_to 1 (pc2 := 61) (lv2 := [some (az_r 34), some (az_i (((g : Nat) : Int))), some (az_i (((b : Nat) : Int)))]) (st2 := [az_i (0)]) (s2 := am_up (am_up (am_up (am_up (am_up s 34 6 (0)) 34 7 (9)) 34 8 ((((b : Nat) : Int)))) 34 9 (0)) 34 6 (9)) rfl ?_
        refine az_retI rfl rfl ?_
        have e : zo_dispute S ((g : Nat) : Int) ((b : Nat) : Int) = (3, 9, (((b : Nat) : Int)), S) := by
          simp only [zo_dispute, Int.toNat_natCast]
          first | (rw [if_pos (by omega)]) | (rw [if_neg (by omega), if_pos (by omega)]) | (rw [if_neg (by omega), if_neg (by omega), if_pos (by omega)]) | (rw [if_neg (by omega), if_neg (by omega), if_neg (by omega), if_pos (by omega)]) | (rw [if_neg (by omega), if_neg (by omega), if_neg (by omega), if_neg (by omega), if_pos (by omega)])
        rw [e]
        exact ⟨rfl, hS, rfl, (fun _ => ⟨rfl, rfl, rfl⟩), (fun h => absurd rfl h), (fun j h6 h7 h8 h9 => by simp [am_up, h6, h7, h8, h9]), (fun i h1 h2 => by funext j; simp [am_up, h1, h2])⟩
    · have h2 : ¬ (0 ≤ zb ∧ zb < ((zn S 0 : Nat) : Int)) := h2
      refine az_to 3 (pc2 := 23) (lv2 := [some (az_r 34), some (az_i (((g : Nat) : Int))), some (az_i (zb))]) (st2 := [az_i (1), az_i (1), az_r 34]) (s2 := s) rfl ?_
      refine az_clv (v := some (az_i (1))) (t := am_up s 34 6 (1)) (m2 := am_m_X10_isThrown) (as := [az_r 34, az_i (1), az_i (1)]) (rest := []) 26 rfl rfl ⟨rfl, rfl⟩ (by omega) (zs_X10_isThrown_t (s := s) (v := 1) (by omega) ) ?_
      refine az_to 0 (pc2 := 26) (lv2 := [some (az_r 34), some (az_i (((g : Nat) : Int))), some (az_i (zb))]) (st2 := [az_i (1)]) (s2 := am_up s 34 6 (1)) rfl ?_
      refine az_ifc 60 29 rfl (by decide) ⟨by decide, by decide⟩ (fun _ => ?_) (fun h => absurd (show az_cnd _ _ _ by unfold az_cnd; decide) h)
      refine az_to 1 (pc2 := 61) (lv2 := [some (az_r 34), some (az_i (((g : Nat) : Int))), some (az_i (zb))]) (st2 := [az_i (0)]) (s2 := am_up s 34 6 (1)) rfl ?_
      refine az_retI rfl rfl ?_
      have e : zo_dispute S ((g : Nat) : Int) zb = (1, 0, 0, S) := by
        simp only [zo_dispute, Int.toNat_natCast]
        first | (rw [if_pos (by omega)]) | (rw [if_neg (by omega), if_pos (by omega)]) | (rw [if_neg (by omega), if_neg (by omega), if_pos (by omega)]) | (rw [if_neg (by omega), if_neg (by omega), if_neg (by omega), if_pos (by omega)]) | (rw [if_neg (by omega), if_neg (by omega), if_neg (by omega), if_neg (by omega), if_pos (by omega)])
      rw [e]
      exact ⟨rfl, hS, rfl, (fun h => absurd (show (1 : Nat) = 3 from h) (by decide)), (fun _ => ⟨rfl, rfl, rfl⟩), (fun j h6 h7 h8 h9 => by simp [am_up, h6, h7, h8, h9]), (fun i h1 h2 => by funext j; simp [am_up, h1, h2])⟩
set_option maxRecDepth 100000 in
set_option maxHeartbeats 800000 in
theorem zs_X10_pays {d : Nat} {s : az_S} (hd : 3 ≤ d) {S : zR} {h : Nat} (hS : s 35 = S) (hI : zInv S h) (hh : h ≤ 10000) {g b : Nat} (hg : g < zn S 2) (hb : b < zn S 0) (hle : zdue S b ≤ zG S g 1) : az_R d am_m_X10_pays 0 (az_ini (am_mL am_m_X10_pays) [az_r 34, az_i (((g : Nat) : Int)), az_i (((b : Nat) : Int)), az_i (zdue S b)]) [] (s) (fun o t => o = .inl none ∧ t 35 = zpS S g b ∧ ∀ i, i ≠ 35 → t i = s i) := by
  have hz := zI_h hI hh
  have hs0 : s 35 0 = ((zn S 0 : Nat) : Int) := by rw [hS, hz.2.1.1]
  have hs1 : s 35 1 = ((zn S 1 : Nat) : Int) := by rw [hS, hz.2.1.2.1]
  have hs2 : s 35 2 = ((zn S 2 : Nat) : Int) := by rw [hS, hz.2.1.2.2]
  have hs3 : s 35 3 = S 3 := by rw [hS]
  have hs5 : s 35 5 = S 5 := by rw [hS]
  have hzb := zI_b hI hh hb
  have hzg := zI_g hI hh (g := g) (by omega)
  have hdu := zdue_r hI hh hb
  refine az_to 0 (pc2 := 0) (lv2 := [some (az_r 34), some (az_i (((g : Nat) : Int))), some (az_i (((b : Nat) : Int))), some (az_i (zdue S b)), none]) (st2 := []) (s2 := s) rfl ?_
  refine az_to 6 (pc2 := 6) (lv2 := [some (az_r 34), some (az_i (((g : Nat) : Int))), some (az_i (((b : Nat) : Int))), some (az_i (zdue S b)), none]) (st2 := [az_i (1), az_i (((g : Nat) : Int)), az_r 34, az_i (1), az_i (((g : Nat) : Int)), az_r 34]) (s2 := s) rfl ?_
  refine az_clv (v := some (az_i (zG S g 1))) (t := s) (m2 := am_m_X10_ofGoat) (as := [az_r 34, az_i (((g : Nat) : Int)), az_i (1)]) (rest := [az_i (1), az_i (((g : Nat) : Int)), az_r 34]) 9 rfl rfl ⟨rfl, rfl⟩ (by omega) (zs_X10_ofGoat (s := s) (g := g) (k := 1) (by omega) hS (by omega) (by omega)) ?_
  refine az_to 0 (pc2 := 9) (lv2 := [some (az_r 34), some (az_i (((g : Nat) : Int))), some (az_i (((b : Nat) : Int))), some (az_i (zdue S b)), none]) (st2 := [az_i (zG S g 1), az_i (1), az_i (((g : Nat) : Int)), az_r 34]) (s2 := s) rfl ?_
  refine az_to 2 (pc2 := 11) (lv2 := [some (az_r 34), some (az_i (((g : Nat) : Int))), some (az_i (((b : Nat) : Int))), some (az_i (zdue S b)), none]) (st2 := [az_i ((zG S g 1 - zdue S b)), az_i (1), az_i (((g : Nat) : Int)), az_r 34]) (s2 := s) rfl ?_
  refine az_clv (v := none) (t := am_up s 35 (150 + 5 * g + 1) (((zG S g 1 - zdue S b)))) (m2 := am_m_X10_setsGoat) (as := [az_r 34, az_i (((g : Nat) : Int)), az_i (1), az_i ((zG S g 1 - zdue S b))]) (rest := []) 14 rfl rfl ⟨rfl, rfl⟩ (by omega) (zs_X10_setsGoat (s := s) (g := g) (k := 1) (v := ((zG S g 1 - zdue S b))) (by omega) (by omega) (by omega)) ?_
  refine az_to 0 (pc2 := 14) (lv2 := [some (az_r 34), some (az_i (((g : Nat) : Int))), some (az_i (((b : Nat) : Int))), some (az_i (zdue S b)), none]) (st2 := []) (s2 := am_up s 35 (150 + 5 * g + 1) (((zG S g 1 - zdue S b)))) rfl ?_
  obtain ⟨S1, hS1⟩ : ∃ X, X = zup S (150 + 5 * g + 1) (zG S g 1 - zdue S b) := ⟨_, rfl⟩
  have hSS1 : (am_up s 35 (150 + 5 * g + 1) (((zG S g 1 - zdue S b)))) 35 = S1 := by rw [hS1, ← hS]; rfl
  have hd1 : zB S1 b 5 = zB S b 5 := by rw [hS1]; exact zup_ne _ _ (by omega)
  have hc1 : zat S1 b = zat S b := by rw [hS1]; exact zat_up b (by omega) (fun u hu => by omega)
  have hp1 : zB S1 b (7 + g) = zB S b (7 + g) := by rw [hS1]; exact zup_ne _ _ (by omega)
  have hI1 : zInv S1 h := by
    rw [hS1]
    have hp5 := hI.2.2.2.2.1 g (by omega)
    unfold zIg at hp5
    exact zV_purse hI (Nat.le_refl h) (by omega) ⟨by omega, by omega⟩
  refine az_to 3 (pc2 := 17) (lv2 := [some (az_r 34), some (az_i (((g : Nat) : Int))), some (az_i (((b : Nat) : Int))), some (az_i (zdue S b)), none]) (st2 := [az_i (5), az_i (((b : Nat) : Int)), az_r 34]) (s2 := am_up s 35 (150 + 5 * g + 1) (((zG S g 1 - zdue S b)))) rfl ?_
  refine az_clv (v := some (az_i (zB S1 b 5))) (t := am_up s 35 (150 + 5 * g + 1) (((zG S g 1 - zdue S b)))) (m2 := am_m_X10_of) (as := [az_r 34, az_i (((b : Nat) : Int)), az_i (5)]) (rest := []) 20 rfl rfl ⟨rfl, rfl⟩ (by omega) (zs_X10_of (s := am_up s 35 (150 + 5 * g + 1) (((zG S g 1 - zdue S b)))) (b := b) (k := 5) (by omega) hSS1 (by omega) (by omega)) ?_
  refine az_to 0 (pc2 := 20) (lv2 := [some (az_r 34), some (az_i (((g : Nat) : Int))), some (az_i (((b : Nat) : Int))), some (az_i (zdue S b)), none]) (st2 := [az_i (zB S1 b 5)]) (s2 := am_up s 35 (150 + 5 * g + 1) (((zG S g 1 - zdue S b)))) rfl ?_
  refine az_to 0 (pc2 := 20) (lv2 := [some (az_r 34), some (az_i (((g : Nat) : Int))), some (az_i (((b : Nat) : Int))), some (az_i (zdue S b)), none]) (st2 := [az_i (zB S b 5)]) (s2 := am_up s 35 (150 + 5 * g + 1) (((zG S g 1 - zdue S b)))) (by rw [hd1]; rfl) ?_
  refine az_ifc 46 23 rfl (by decide) (by first | assumption | exact ⟨by omega, by omega⟩) (fun h1 => ?_) (fun h1 => ?_)
  · have h1 : zB S b 5 < 0 := h1
    refine az_to 1 (pc2 := 47) (lv2 := [some (az_r 34), some (az_i (((g : Nat) : Int))), some (az_i (((b : Nat) : Int))), some (az_i (zdue S b)), none]) (st2 := [az_i (zdue S b)]) (s2 := am_up s 35 (150 + 5 * g + 1) (((zG S g 1 - zdue S b)))) rfl ?_
    refine az_ifc 73 50 rfl (by decide) (by first | assumption | exact ⟨by omega, by omega⟩) (fun h2 => ?_) (fun h2 => ?_)
    · have h2 : zdue S b ≤ 0 := h2
      refine az_ret0 rfl rfl ?_
      refine ⟨rfl, ?_, fun i h3 => by funext j; simp [am_up, h3]⟩
      unfold zpS
      rw [if_neg (by omega), if_neg (by omega), ← hS1]; exact hSS1
    · have h2 : ¬ (zdue S b ≤ 0) := h2
      refine az_to 2 (pc2 := 52) (lv2 := [some (az_r 34), some (az_i (((g : Nat) : Int))), some (az_i (((b : Nat) : Int))), some (az_i (zdue S b)), none]) (st2 := [az_i (((b : Nat) : Int)), az_r 34]) (s2 := am_up s 35 (150 + 5 * g + 1) (((zG S g 1 - zdue S b)))) rfl ?_
      refine az_clv (v := some (az_i (zat S1 b))) (t := am_up s 35 (150 + 5 * g + 1) (((zG S g 1 - zdue S b)))) (m2 := am_m_X10_trollAt) (as := [az_r 34, az_i (((b : Nat) : Int))]) (rest := []) 55 rfl rfl ⟨rfl, rfl⟩ (by omega) (zs_X10_trollAt (s := am_up s 35 (150 + 5 * g + 1) (((zG S g 1 - zdue S b)))) (b := b) (by omega) hSS1 hI1 hh (by omega)) ?_
      refine az_to 0 (pc2 := 55) (lv2 := [some (az_r 34), some (az_i (((g : Nat) : Int))), some (az_i (((b : Nat) : Int))), some (az_i (zdue S b)), none]) (st2 := [az_i (zat S1 b)]) (s2 := am_up s 35 (150 + 5 * g + 1) (((zG S g 1 - zdue S b)))) rfl ?_
      obtain ⟨T, hT⟩ : ∃ n0 : Nat, zat S b = n0 := ⟨(zat S b).toNat, by omega⟩
      have ht1 : zT S1 T 1 = zT S T 1 := by rw [hS1]; exact zup_ne _ _ (by omega)
      refine az_to 0 (pc2 := 55) (lv2 := [some (az_r 34), some (az_i (((g : Nat) : Int))), some (az_i (((b : Nat) : Int))), some (az_i (zdue S b)), none]) (st2 := [az_i (((T : Nat) : Int))]) (s2 := am_up s 35 (150 + 5 * g + 1) (((zG S g 1 - zdue S b)))) (by rw [hc1, hT]; rfl) ?_
      refine az_to 7 (pc2 := 65) (lv2 := [some (az_r 34), some (az_i (((g : Nat) : Int))), some (az_i (((b : Nat) : Int))), some (az_i (zdue S b)), some (az_i (((T : Nat) : Int)))]) (st2 := [az_i (1), az_i (((T : Nat) : Int)), az_r 34, az_i (1), az_i (((T : Nat) : Int)), az_r 34]) (s2 := am_up s 35 (150 + 5 * g + 1) (((zG S g 1 - zdue S b)))) rfl ?_
      refine az_clv (v := some (az_i (zT S1 T 1))) (t := am_up s 35 (150 + 5 * g + 1) (((zG S g 1 - zdue S b)))) (m2 := am_m_X10_ofTroll) (as := [az_r 34, az_i (((T : Nat) : Int)), az_i (1)]) (rest := [az_i (1), az_i (((T : Nat) : Int)), az_r 34]) 68 rfl rfl ⟨rfl, rfl⟩ (by omega) (zs_X10_ofTroll (s := am_up s 35 (150 + 5 * g + 1) (((zG S g 1 - zdue S b)))) (t := T) (k := 1) (by omega) hSS1 (by omega) (by omega)) ?_
      refine az_to 0 (pc2 := 68) (lv2 := [some (az_r 34), some (az_i (((g : Nat) : Int))), some (az_i (((b : Nat) : Int))), some (az_i (zdue S b)), some (az_i (((T : Nat) : Int)))]) (st2 := [az_i (zT S1 T 1), az_i (1), az_i (((T : Nat) : Int)), az_r 34]) (s2 := am_up s 35 (150 + 5 * g + 1) (((zG S g 1 - zdue S b)))) rfl ?_
      refine az_to 0 (pc2 := 68) (lv2 := [some (az_r 34), some (az_i (((g : Nat) : Int))), some (az_i (((b : Nat) : Int))), some (az_i (zdue S b)), some (az_i (((T : Nat) : Int)))]) (st2 := [az_i (zT S T 1), az_i (1), az_i (((T : Nat) : Int)), az_r 34]) (s2 := am_up s 35 (150 + 5 * g + 1) (((zG S g 1 - zdue S b)))) (by rw [ht1]; rfl) ?_
      refine az_to 2 (pc2 := 70) (lv2 := [some (az_r 34), some (az_i (((g : Nat) : Int))), some (az_i (((b : Nat) : Int))), some (az_i (zdue S b)), some (az_i (((T : Nat) : Int)))]) (st2 := [az_i ((zT S T 1 + zdue S b)), az_i (1), az_i (((T : Nat) : Int)), az_r 34]) (s2 := am_up s 35 (150 + 5 * g + 1) (((zG S g 1 - zdue S b)))) rfl ?_
      refine az_clv (v := none) (t := am_up (am_up s 35 (150 + 5 * g + 1) (((zG S g 1 - zdue S b)))) 35 (126 + 4 * T + 1) (((zT S T 1 + zdue S b)))) (m2 := am_m_X10_setsTroll) (as := [az_r 34, az_i (((T : Nat) : Int)), az_i (1), az_i ((zT S T 1 + zdue S b))]) (rest := []) 73 rfl rfl ⟨rfl, rfl⟩ (by omega) (zs_X10_setsTroll (s := am_up s 35 (150 + 5 * g + 1) (((zG S g 1 - zdue S b)))) (t := T) (k := 1) (v := ((zT S T 1 + zdue S b))) (by omega) (by omega) (by omega)) ?_
      refine az_to 0 (pc2 := 73) (lv2 := [some (az_r 34), some (az_i (((g : Nat) : Int))), some (az_i (((b : Nat) : Int))), some (az_i (zdue S b)), some (az_i (((T : Nat) : Int)))]) (st2 := []) (s2 := am_up (am_up s 35 (150 + 5 * g + 1) (((zG S g 1 - zdue S b)))) 35 (126 + 4 * T + 1) (((zT S T 1 + zdue S b)))) rfl ?_
      refine az_ret0 rfl rfl ?_
      refine ⟨rfl, ?_, fun i h3 => by funext j; simp [am_up, h3]⟩
      unfold zpS
      rw [if_neg (by omega), if_pos (by omega), hT, Int.toNat_natCast, ← hS1, ← hSS1]; rfl
  · have h1 : ¬ (zB S b 5 < 0) := h1
    refine az_to 10 (pc2 := 35) (lv2 := [some (az_r 34), some (az_i (((g : Nat) : Int))), some (az_i (((b : Nat) : Int))), some (az_i (zdue S b)), none]) (st2 := [az_i ((7 + ((g : Nat) : Int))), az_i (((b : Nat) : Int)), az_r 34, az_i ((7 + ((g : Nat) : Int))), az_i (((b : Nat) : Int)), az_r 34]) (s2 := am_up s 35 (150 + 5 * g + 1) (((zG S g 1 - zdue S b)))) rfl ?_
    refine az_clv (v := some (az_i (zB S1 b (7 + g)))) (t := am_up s 35 (150 + 5 * g + 1) (((zG S g 1 - zdue S b)))) (m2 := am_m_X10_of) (as := [az_r 34, az_i (((b : Nat) : Int)), az_i ((7 + ((g : Nat) : Int)))]) (rest := [az_i ((7 + ((g : Nat) : Int))), az_i (((b : Nat) : Int)), az_r 34]) 38 rfl rfl ⟨rfl, rfl⟩ (by omega) (zs_X10_of (s := am_up s 35 (150 + 5 * g + 1) (((zG S g 1 - zdue S b)))) (b := b) (k := (7 + g)) (by omega) hSS1 (by omega) (by omega)) ?_
    refine az_to 0 (pc2 := 38) (lv2 := [some (az_r 34), some (az_i (((g : Nat) : Int))), some (az_i (((b : Nat) : Int))), some (az_i (zdue S b)), none]) (st2 := [az_i (zB S1 b (7 + g)), az_i ((7 + ((g : Nat) : Int))), az_i (((b : Nat) : Int)), az_r 34]) (s2 := am_up s 35 (150 + 5 * g + 1) (((zG S g 1 - zdue S b)))) rfl ?_
    refine az_to 0 (pc2 := 38) (lv2 := [some (az_r 34), some (az_i (((g : Nat) : Int))), some (az_i (((b : Nat) : Int))), some (az_i (zdue S b)), none]) (st2 := [az_i (zB S b (7 + g)), az_i ((7 + ((g : Nat) : Int))), az_i (((b : Nat) : Int)), az_r 34]) (s2 := am_up s 35 (150 + 5 * g + 1) (((zG S g 1 - zdue S b)))) (by rw [hp1]; rfl) ?_
    refine az_to 2 (pc2 := 40) (lv2 := [some (az_r 34), some (az_i (((g : Nat) : Int))), some (az_i (((b : Nat) : Int))), some (az_i (zdue S b)), none]) (st2 := [az_i ((zB S b (7 + g) + zdue S b)), az_i ((7 + ((g : Nat) : Int))), az_i (((b : Nat) : Int)), az_r 34]) (s2 := am_up s 35 (150 + 5 * g + 1) (((zG S g 1 - zdue S b)))) rfl ?_
    refine az_clv (v := none) (t := am_up (am_up s 35 (150 + 5 * g + 1) (((zG S g 1 - zdue S b)))) 35 (6 + 12 * b + (7 + g)) (((zB S b (7 + g) + zdue S b)))) (m2 := am_m_X10_sets) (as := [az_r 34, az_i (((b : Nat) : Int)), az_i ((7 + ((g : Nat) : Int))), az_i ((zB S b (7 + g) + zdue S b))]) (rest := []) 43 rfl rfl ⟨rfl, rfl⟩ (by omega) (zs_X10_sets (s := am_up s 35 (150 + 5 * g + 1) (((zG S g 1 - zdue S b)))) (b := b) (k := (7 + g)) (v := ((zB S b (7 + g) + zdue S b))) (by omega) (by omega) (by omega)) ?_
    refine az_to 0 (pc2 := 43) (lv2 := [some (az_r 34), some (az_i (((g : Nat) : Int))), some (az_i (((b : Nat) : Int))), some (az_i (zdue S b)), none]) (st2 := []) (s2 := am_up (am_up s 35 (150 + 5 * g + 1) (((zG S g 1 - zdue S b)))) 35 (6 + 12 * b + (7 + g)) (((zB S b (7 + g) + zdue S b)))) rfl ?_
    refine az_to 1 (pc2 := 73) (lv2 := [some (az_r 34), some (az_i (((g : Nat) : Int))), some (az_i (((b : Nat) : Int))), some (az_i (zdue S b)), none]) (st2 := []) (s2 := am_up (am_up s 35 (150 + 5 * g + 1) (((zG S g 1 - zdue S b)))) 35 (6 + 12 * b + (7 + g)) (((zB S b (7 + g) + zdue S b)))) rfl ?_
    refine az_ret0 rfl rfl ?_
    refine ⟨rfl, ?_, fun i h3 => by funext j; simp [am_up, h3]⟩
    unfold zpS
    rw [if_pos (by omega), ← hS1, ← hSS1]; rfl
set_option maxRecDepth 100000 in
set_option maxHeartbeats 800000 in
theorem zs_X10_crosses {d : Nat} {s : az_S} (hd : 5 ≤ d) {S : zR} {h : Nat} (hS : s 35 = S) (hI : zInv S h) (hh : h ≤ 10000) {zg : Int} {zb : Int} (h_zg : az_in zg) (h_zb : az_in zb) : az_R d am_m_X10_crosses 0 (az_ini (am_mL am_m_X10_crosses) [az_r 34, az_i (zg), az_i (zb)]) [] (s) (zMq s (zo_cross S zg zb) 2) := by
  have hz := zI_h hI hh
  have hs0 : s 35 0 = ((zn S 0 : Nat) : Int) := by rw [hS, hz.2.1.1]
  have hs1 : s 35 1 = ((zn S 1 : Nat) : Int) := by rw [hS, hz.2.1.2.1]
  have hs2 : s 35 2 = ((zn S 2 : Nat) : Int) := by rw [hS, hz.2.1.2.2]
  have hs3 : s 35 3 = S 3 := by rw [hS]
  have hs5 : s 35 5 = S 5 := by rw [hS]
  refine az_to 0 (pc2 := 0) (lv2 := [some (az_r 34), some (az_i (zg)), some (az_i (zb)), none, none, none]) (st2 := []) (s2 := s) rfl ?_
  refine az_to 3 (pc2 := 3) (lv2 := [some (az_r 34), some (az_i (zg)), some (az_i (zb)), none, none, none]) (st2 := [az_i (zg), az_r 34, az_r 34]) (s2 := s) rfl ?_
  refine az_clv (v := some (az_i (az_b (0 ≤ zg ∧ zg < ((zn S 2 : Nat) : Int))))) (t := s) (m2 := am_m_X10_isGoat) (as := [az_r 34, az_i (zg)]) (rest := [az_r 34]) 6 rfl rfl ⟨rfl, rfl⟩ (by omega) (zs_X10_isGoat (s := s) (z := zg) (by omega) hS hI hh (by first | assumption | exact ⟨by omega, by omega⟩)) ?_
  refine az_to 0 (pc2 := 6) (lv2 := [some (az_r 34), some (az_i (zg)), some (az_i (zb)), none, none, none]) (st2 := [az_i (az_b (0 ≤ zg ∧ zg < ((zn S 2 : Nat) : Int))), az_r 34]) (s2 := s) rfl ?_
  refine az_ifbe 17 9 rfl (by decide) (fun h1 => ?_) (fun h1 => ?_)
  · have h1 : ¬ (0 ≤ zg ∧ zg < ((zn S 2 : Nat) : Int)) := h1
    refine az_to 3 (pc2 := 23) (lv2 := [some (az_r 34), some (az_i (zg)), some (az_i (zb)), none, none, none]) (st2 := [az_i (1), az_i (1), az_r 34]) (s2 := s) rfl ?_
    refine az_clv (v := some (az_i (1))) (t := am_up s 34 6 (1)) (m2 := am_m_X10_isThrown) (as := [az_r 34, az_i (1), az_i (1)]) (rest := []) 26 rfl rfl ⟨rfl, rfl⟩ (by omega) (zs_X10_isThrown_t (s := s) (v := 1) (by omega) ) ?_
    refine az_to 0 (pc2 := 26) (lv2 := [some (az_r 34), some (az_i (zg)), some (az_i (zb)), none, none, none]) (st2 := [az_i (1)]) (s2 := am_up s 34 6 (1)) rfl ?_
    refine az_ifc 31 29 rfl (by decide) ⟨by decide, by decide⟩ (fun h => absurd h (by unfold az_cnd; decide)) (fun _ => ?_)
    refine az_to 1 (pc2 := 30) (lv2 := [some (az_r 34), some (az_i (zg)), some (az_i (zb)), none, none, none]) (st2 := [az_i (0)]) (s2 := am_up s 34 6 (1)) rfl ?_
    refine az_retI rfl rfl ?_
    have e : zo_cross S zg zb = (1, 0, 0, S) := by
      simp only [zo_cross, Int.toNat_natCast]
      first | (rw [if_pos (by omega)]) | (rw [if_neg (by omega), if_pos (by omega)]) | (rw [if_neg (by omega), if_neg (by omega), if_pos (by omega)]) | (rw [if_neg (by omega), if_neg (by omega), if_neg (by omega), if_pos (by omega)]) | (rw [if_neg (by omega), if_neg (by omega), if_neg (by omega), if_neg (by omega), if_pos (by omega)])
    rw [e]
    exact ⟨rfl, hS, rfl, (fun h => absurd (show (1 : Nat) = 3 from h) (by decide)), (fun _ => ⟨rfl, rfl, rfl⟩), (fun j h6 h7 h8 h9 => by simp [am_up, h6, h7, h8, h9]), (fun i h1 h2 => by funext j; simp [am_up, h1, h2])⟩
  · have h1 : 0 ≤ zg ∧ zg < ((zn S 2 : Nat) : Int) := h1
    obtain ⟨g, rfl⟩ : ∃ n0 : Nat, zg = n0 := ⟨zg.toNat, by omega⟩
    have hzg := zI_g hI hh (g := g) (by omega)
    refine az_to 0 (pc2 := 9) (lv2 := [some (az_r 34), some (az_i (((g : Nat) : Int))), some (az_i (zb)), none, none, none]) (st2 := [az_r 34]) (s2 := s) (rfl) ?_
    refine az_to 2 (pc2 := 11) (lv2 := [some (az_r 34), some (az_i (((g : Nat) : Int))), some (az_i (zb)), none, none, none]) (st2 := [az_i (zb), az_r 34, az_r 34]) (s2 := s) rfl ?_
    refine az_clv (v := some (az_i (az_b (0 ≤ zb ∧ zb < ((zn S 0 : Nat) : Int))))) (t := s) (m2 := am_m_X10_isBridge) (as := [az_r 34, az_i (zb)]) (rest := [az_r 34]) 14 rfl rfl ⟨rfl, rfl⟩ (by omega) (zs_X10_isBridge (s := s) (z := zb) (by omega) hS hI hh (by first | assumption | exact ⟨by omega, by omega⟩)) ?_
    refine az_to 0 (pc2 := 14) (lv2 := [some (az_r 34), some (az_i (((g : Nat) : Int))), some (az_i (zb)), none, none, none]) (st2 := [az_i (az_b (0 ≤ zb ∧ zb < ((zn S 0 : Nat) : Int))), az_r 34]) (s2 := s) rfl ?_
    refine az_ifbn 21 17 rfl (by decide) (fun h2 => ?_) (fun h2 => ?_)
    · have h2 : 0 ≤ zb ∧ zb < ((zn S 0 : Nat) : Int) := h2
      obtain ⟨b, rfl⟩ : ∃ n0 : Nat, zb = n0 := ⟨zb.toNat, by omega⟩
      have hzb := zI_b hI hh (b := b) (by omega)
      have hdu := zdue_r hI hh (b := b) (by omega)
      have htk := ztk_r hI hh (b := b) (by omega)
      refine az_to 0 (pc2 := 21) (lv2 := [some (az_r 34), some (az_i (((g : Nat) : Int))), some (az_i (((b : Nat) : Int))), none, none, none]) (st2 := [az_r 34]) (s2 := s) (rfl) ?_
      refine az_to 2 (pc2 := 23) (lv2 := [some (az_r 34), some (az_i (((g : Nat) : Int))), some (az_i (((b : Nat) : Int))), none, none, none]) (st2 := [az_i (1), az_i (0), az_r 34]) (s2 := s) rfl ?_
      refine az_clv (v := some (az_i (0))) (t := am_up s 34 6 (0)) (m2 := am_m_X10_isThrown) (as := [az_r 34, az_i (0), az_i (1)]) (rest := []) 26 rfl rfl ⟨rfl, rfl⟩ (by omega) (zs_X10_isThrown_f (s := s) (v := 1) (by omega) ) ?_
      refine az_to 0 (pc2 := 26) (lv2 := [some (az_r 34), some (az_i (((g : Nat) : Int))), some (az_i (((b : Nat) : Int))), none, none, none]) (st2 := [az_i (0)]) (s2 := am_up s 34 6 (0)) rfl ?_
      refine az_ifc 31 29 rfl (by decide) ⟨by decide, by decide⟩ (fun _ => ?_) (fun h => absurd (show az_cnd _ _ _ by unfold az_cnd; decide) h)
      refine az_to 3 (pc2 := 34) (lv2 := [some (az_r 34), some (az_i (((g : Nat) : Int))), some (az_i (((b : Nat) : Int))), none, none, none]) (st2 := [az_i (0), az_i (((g : Nat) : Int)), az_r 34]) (s2 := am_up s 34 6 (0)) rfl ?_
      refine az_clv (v := some (az_i (zG S g 0))) (t := am_up s 34 6 (0)) (m2 := am_m_X10_ofGoat) (as := [az_r 34, az_i (((g : Nat) : Int)), az_i (0)]) (rest := []) 37 rfl rfl ⟨rfl, rfl⟩ (by omega) (zs_X10_ofGoat (s := am_up s 34 6 (0)) (g := g) (k := 0) (by omega) hS (by omega) (by omega)) ?_
      refine az_to 0 (pc2 := 37) (lv2 := [some (az_r 34), some (az_i (((g : Nat) : Int))), some (az_i (((b : Nat) : Int))), none, none, none]) (st2 := [az_i (zG S g 0)]) (s2 := am_up s 34 6 (0)) rfl ?_
      refine az_to 3 (pc2 := 40) (lv2 := [some (az_r 34), some (az_i (((g : Nat) : Int))), some (az_i (((b : Nat) : Int))), some (az_i (zG S g 0)), none, none]) (st2 := [az_i (((b : Nat) : Int)), az_r 34]) (s2 := am_up s 34 6 (0)) rfl ?_
      refine az_clv (v := some (az_i (zdue S b))) (t := am_up s 34 6 (0)) (m2 := am_m_X10_dueAt) (as := [az_r 34, az_i (((b : Nat) : Int))]) (rest := []) 43 rfl rfl ⟨rfl, rfl⟩ (by omega) (zs_X10_dueAt (s := am_up s 34 6 (0)) (b := b) (by omega) hS hI hh (by omega)) ?_
      refine az_to 0 (pc2 := 43) (lv2 := [some (az_r 34), some (az_i (((g : Nat) : Int))), some (az_i (((b : Nat) : Int))), some (az_i (zG S g 0)), none, none]) (st2 := [az_i (zdue S b)]) (s2 := am_up s 34 6 (0)) rfl ?_
      refine az_to 3 (pc2 := 46) (lv2 := [some (az_r 34), some (az_i (((g : Nat) : Int))), some (az_i (((b : Nat) : Int))), some (az_i (zG S g 0)), none, none]) (st2 := [az_i (1), az_i (((g : Nat) : Int)), az_r 34, az_i (zdue S b)]) (s2 := am_up s 34 6 (0)) rfl ?_
      refine az_clv (v := some (az_i (zG S g 1))) (t := am_up s 34 6 (0)) (m2 := am_m_X10_ofGoat) (as := [az_r 34, az_i (((g : Nat) : Int)), az_i (1)]) (rest := [az_i (zdue S b)]) 49 rfl rfl ⟨rfl, rfl⟩ (by omega) (zs_X10_ofGoat (s := am_up s 34 6 (0)) (g := g) (k := 1) (by omega) hS (by omega) (by omega)) ?_
      refine az_to 0 (pc2 := 49) (lv2 := [some (az_r 34), some (az_i (((g : Nat) : Int))), some (az_i (((b : Nat) : Int))), some (az_i (zG S g 0)), none, none]) (st2 := [az_i (zG S g 1), az_i (zdue S b)]) (s2 := am_up s 34 6 (0)) rfl ?_
      refine az_to 6 (pc2 := 56) (lv2 := [some (az_r 34), some (az_i (((g : Nat) : Int))), some (az_i (((b : Nat) : Int))), some (az_i (zG S g 0)), some (az_i ((zdue S b - zG S g 1))), none]) (st2 := [az_i (2), az_i (((g : Nat) : Int)), az_r 34, az_r 34]) (s2 := am_up s 34 6 (0)) rfl ?_
      refine az_clv (v := some (az_i (zG S g 2))) (t := am_up s 34 6 (0)) (m2 := am_m_X10_ofGoat) (as := [az_r 34, az_i (((g : Nat) : Int)), az_i (2)]) (rest := [az_r 34]) 59 rfl rfl ⟨rfl, rfl⟩ (by omega) (zs_X10_ofGoat (s := am_up s 34 6 (0)) (g := g) (k := 2) (by omega) hS (by omega) (by omega)) ?_
      refine az_to 0 (pc2 := 59) (lv2 := [some (az_r 34), some (az_i (((g : Nat) : Int))), some (az_i (((b : Nat) : Int))), some (az_i (zG S g 0)), some (az_i ((zdue S b - zG S g 1))), none]) (st2 := [az_i (zG S g 2), az_r 34]) (s2 := am_up s 34 6 (0)) rfl ?_
      refine az_to 1 (pc2 := 60) (lv2 := [some (az_r 34), some (az_i (((g : Nat) : Int))), some (az_i (((b : Nat) : Int))), some (az_i (zG S g 0)), some (az_i ((zdue S b - zG S g 1))), none]) (st2 := [az_i (1), az_i (zG S g 2), az_r 34]) (s2 := am_up s 34 6 (0)) rfl ?_
      refine az_if2 67 63 rfl (by decide) (by first | assumption | exact ⟨by omega, by omega⟩) ⟨by decide, by decide⟩ (fun h3 => ?_) (fun h3 => ?_)
      · have h3 : ¬ zG S g 2 = 1 := h3
        refine az_to 3 (pc2 := 71) (lv2 := [some (az_r 34), some (az_i (((g : Nat) : Int))), some (az_i (((b : Nat) : Int))), some (az_i (zG S g 0)), some (az_i ((zdue S b - zG S g 1))), none]) (st2 := [az_i (((g : Nat) : Int)), az_i (6), az_i (0), az_r 34]) (s2 := am_up s 34 6 (0)) rfl ?_
        refine az_clv (v := some (az_i (0))) (t := am_up s 34 6 (0)) (m2 := am_m_X10_isRefused) (as := [az_r 34, az_i (0), az_i (6), az_i (((g : Nat) : Int))]) (rest := []) 74 rfl rfl ⟨rfl, rfl⟩ (by omega) (zs_X10_isRefused_f (s := am_up s 34 6 (0)) (v := 6) (w := (((g : Nat) : Int))) (by omega) ) ?_
        refine az_to 0 (pc2 := 74) (lv2 := [some (az_r 34), some (az_i (((g : Nat) : Int))), some (az_i (((b : Nat) : Int))), some (az_i (zG S g 0)), some (az_i ((zdue S b - zG S g 1))), none]) (st2 := [az_i (0)]) (s2 := am_up s 34 6 (0)) rfl ?_
        refine az_ifc 133 77 rfl (by decide) ⟨by decide, by decide⟩ (fun h => absurd h (by unfold az_cnd; decide)) (fun _ => ?_)
        refine az_to 4 (pc2 := 81) (lv2 := [some (az_r 34), some (az_i (((g : Nat) : Int))), some (az_i (((b : Nat) : Int))), some (az_i (zG S g 0)), some (az_i ((zdue S b - zG S g 1))), none]) (st2 := [az_i (0), az_i (((b : Nat) : Int)), az_r 34, az_r 34]) (s2 := am_up s 34 6 (0)) rfl ?_
        refine az_clv (v := some (az_i (zB S b 0))) (t := am_up s 34 6 (0)) (m2 := am_m_X10_of) (as := [az_r 34, az_i (((b : Nat) : Int)), az_i (0)]) (rest := [az_r 34]) 84 rfl rfl ⟨rfl, rfl⟩ (by omega) (zs_X10_of (s := am_up s 34 6 (0)) (b := b) (k := 0) (by omega) hS (by omega) (by omega)) ?_
        refine az_to 0 (pc2 := 84) (lv2 := [some (az_r 34), some (az_i (((g : Nat) : Int))), some (az_i (((b : Nat) : Int))), some (az_i (zG S g 0)), some (az_i ((zdue S b - zG S g 1))), none]) (st2 := [az_i (zB S b 0), az_r 34]) (s2 := am_up s 34 6 (0)) rfl ?_
        refine az_to 1 (pc2 := 85) (lv2 := [some (az_r 34), some (az_i (((g : Nat) : Int))), some (az_i (((b : Nat) : Int))), some (az_i (zG S g 0)), some (az_i ((zdue S b - zG S g 1))), none]) (st2 := [az_i (zG S g 0), az_i (zB S b 0), az_r 34]) (s2 := am_up s 34 6 (0)) rfl ?_
        refine az_if2 102 88 rfl (by decide) (by first | assumption | exact ⟨by omega, by omega⟩) (by first | assumption | exact ⟨by omega, by omega⟩) (fun h4 => ?_) (fun h4 => ?_)
        · have h4 : zB S b 0 = zG S g 0 := h4
          refine az_to 3 (pc2 := 106) (lv2 := [some (az_r 34), some (az_i (((g : Nat) : Int))), some (az_i (((b : Nat) : Int))), some (az_i (zG S g 0)), some (az_i ((zdue S b - zG S g 1))), none]) (st2 := [az_i (zG S g 0), az_i (7), az_i (0), az_r 34]) (s2 := am_up s 34 6 (0)) rfl ?_
          refine az_clv (v := some (az_i (0))) (t := am_up s 34 6 (0)) (m2 := am_m_X10_isRefused) (as := [az_r 34, az_i (0), az_i (7), az_i (zG S g 0)]) (rest := []) 109 rfl rfl ⟨rfl, rfl⟩ (by omega) (zs_X10_isRefused_f (s := am_up s 34 6 (0)) (v := 7) (w := (zG S g 0)) (by omega) ) ?_
          refine az_to 0 (pc2 := 109) (lv2 := [some (az_r 34), some (az_i (((g : Nat) : Int))), some (az_i (((b : Nat) : Int))), some (az_i (zG S g 0)), some (az_i ((zdue S b - zG S g 1))), none]) (st2 := [az_i (0)]) (s2 := am_up s 34 6 (0)) rfl ?_
          refine az_ifc 133 112 rfl (by decide) ⟨by decide, by decide⟩ (fun h => absurd h (by unfold az_cnd; decide)) (fun _ => ?_)
          refine az_to 2 (pc2 := 115) (lv2 := [some (az_r 34), some (az_i (((g : Nat) : Int))), some (az_i (((b : Nat) : Int))), some (az_i (zG S g 0)), some (az_i ((zdue S b - zG S g 1))), none]) (st2 := [az_i ((zdue S b - zG S g 1)), az_r 34]) (s2 := am_up s 34 6 (0)) rfl ?_
          refine az_ifc 122 118 rfl (by decide) (by first | assumption | exact ⟨by omega, by omega⟩) (fun h5 => ?_) (fun h5 => ?_)
          · have h5 : (zdue S b - zG S g 1) ≤ 0 := h5
            refine az_to 3 (pc2 := 127) (lv2 := [some (az_r 34), some (az_i (((g : Nat) : Int))), some (az_i (((b : Nat) : Int))), some (az_i (zG S g 0)), some (az_i ((zdue S b - zG S g 1))), none]) (st2 := [az_i ((zdue S b - zG S g 1)), az_i (8), az_i (0), az_r 34]) (s2 := am_up s 34 6 (0)) rfl ?_
            refine az_clv (v := some (az_i (0))) (t := am_up s 34 6 (0)) (m2 := am_m_X10_isRefused) (as := [az_r 34, az_i (0), az_i (8), az_i ((zdue S b - zG S g 1))]) (rest := []) 130 rfl rfl ⟨rfl, rfl⟩ (by omega) (zs_X10_isRefused_f (s := am_up s 34 6 (0)) (v := 8) (w := ((zdue S b - zG S g 1))) (by omega) ) ?_
            refine az_to 0 (pc2 := 130) (lv2 := [some (az_r 34), some (az_i (((g : Nat) : Int))), some (az_i (((b : Nat) : Int))), some (az_i (zG S g 0)), some (az_i ((zdue S b - zG S g 1))), none]) (st2 := [az_i (0)]) (s2 := am_up s 34 6 (0)) rfl ?_
            refine az_ifc 135 133 rfl (by decide) ⟨by decide, by decide⟩ (fun _ => ?_) (fun h => absurd (show az_cnd _ _ _ by unfold az_cnd; decide) h)
            refine az_to 2 (pc2 := 137) (lv2 := [some (az_r 34), some (az_i (((g : Nat) : Int))), some (az_i (((b : Nat) : Int))), some (az_i (zG S g 0)), some (az_i ((zdue S b - zG S g 1))), none]) (st2 := [az_i (((b : Nat) : Int)), az_r 34]) (s2 := am_up s 34 6 (0)) rfl ?_
            refine az_clv (v := some (az_i (ztk S b))) (t := am_up s 34 6 (0)) (m2 := am_m_X10_takesAt) (as := [az_r 34, az_i (((b : Nat) : Int))]) (rest := []) 140 rfl rfl ⟨rfl, rfl⟩ (by omega) (zs_X10_takesAt (s := am_up s 34 6 (0)) (b := b) (by omega) hS hI hh (by omega)) ?_
            refine az_to 0 (pc2 := 140) (lv2 := [some (az_r 34), some (az_i (((g : Nat) : Int))), some (az_i (((b : Nat) : Int))), some (az_i (zG S g 0)), some (az_i ((zdue S b - zG S g 1))), none]) (st2 := [az_i (ztk S b)]) (s2 := am_up s 34 6 (0)) rfl ?_
            refine az_to 6 (pc2 := 147) (lv2 := [some (az_r 34), some (az_i (((g : Nat) : Int))), some (az_i (((b : Nat) : Int))), some (az_i (zG S g 0)), some (az_i ((zdue S b - zG S g 1))), some (az_i (ztk S b))]) (st2 := [az_i (((b : Nat) : Int)), az_r 34, az_i (((b : Nat) : Int)), az_i (((g : Nat) : Int)), az_r 34]) (s2 := am_up s 34 6 (0)) rfl ?_
            refine az_clv (v := some (az_i (zdue S b))) (t := am_up s 34 6 (0)) (m2 := am_m_X10_dueAt) (as := [az_r 34, az_i (((b : Nat) : Int))]) (rest := [az_i (((b : Nat) : Int)), az_i (((g : Nat) : Int)), az_r 34]) 150 rfl rfl ⟨rfl, rfl⟩ (by omega) (zs_X10_dueAt (s := am_up s 34 6 (0)) (b := b) (by omega) hS hI hh (by omega)) ?_
            refine az_to 0 (pc2 := 150) (lv2 := [some (az_r 34), some (az_i (((g : Nat) : Int))), some (az_i (((b : Nat) : Int))), some (az_i (zG S g 0)), some (az_i ((zdue S b - zG S g 1))), some (az_i (ztk S b))]) (st2 := [az_i (zdue S b), az_i (((b : Nat) : Int)), az_i (((g : Nat) : Int)), az_r 34]) (s2 := am_up s 34 6 (0)) rfl ?_
            refine az_cl (m2 := am_m_X10_pays) (as := [az_r 34, az_i (((g : Nat) : Int)), az_i (((b : Nat) : Int)), az_i (zdue S b)]) (rest := []) 153 rfl rfl ⟨rfl, rfl⟩ (by omega) (zs_X10_pays (s := am_up s 34 6 (0)) (g := g) (b := b) (by omega) hS hI hh (by omega) (by omega) (by omega)) (fun v1 t1 q1 => ?_) (fun E t1 q1 => by cases q1.1)
            obtain ⟨q1a, hT1, hF1⟩ := q1
            cases q1a
            obtain ⟨S1, hS1⟩ : ∃ X, X = zpS S g b := ⟨_, rfl⟩
            rw [← hS1] at hT1
            have hat := zat_r hI b
            have eB : ∀ k, k < 7 → zB S1 b k = zB S b k := fun k hk => by rw [hS1]; exact zpS_o (by omega) (by omega) (by omega)
            have eG : ∀ k, k ≠ 1 → k < 5 → zG S1 g k = zG S g k := fun k hk hk2 => by rw [hS1]; exact zpS_o (by omega) (by omega) (by omega)
            have e4 : S1 4 = S 4 := by rw [hS1]; exact zpS_o (by omega) (by omega) (by omega)
            refine az_to 0 (pc2 := 153) (lv2 := [some (az_r 34), some (az_i (((g : Nat) : Int))), some (az_i (((b : Nat) : Int))), some (az_i (zG S g 0)), some (az_i ((zdue S b - zG S g 1))), some (az_i (ztk S b))]) (st2 := []) (s2 := t1) rfl ?_
            refine az_to 6 (pc2 := 159) (lv2 := [some (az_r 34), some (az_i (((g : Nat) : Int))), some (az_i (((b : Nat) : Int))), some (az_i (zG S g 0)), some (az_i ((zdue S b - zG S g 1))), some (az_i (ztk S b))]) (st2 := [az_i (0), az_i (((b : Nat) : Int)), az_r 34, az_i (0), az_i (((g : Nat) : Int)), az_r 34]) (s2 := t1) rfl ?_
            refine az_clv (v := some (az_i (zB S1 b 0))) (t := t1) (m2 := am_m_X10_of) (as := [az_r 34, az_i (((b : Nat) : Int)), az_i (0)]) (rest := [az_i (0), az_i (((g : Nat) : Int)), az_r 34]) 162 rfl rfl ⟨rfl, rfl⟩ (by omega) (zs_X10_of (s := t1) (b := b) (k := 0) (by omega) hT1 (by omega) (by omega)) ?_
            refine az_to 0 (pc2 := 162) (lv2 := [some (az_r 34), some (az_i (((g : Nat) : Int))), some (az_i (((b : Nat) : Int))), some (az_i (zG S g 0)), some (az_i ((zdue S b - zG S g 1))), some (az_i (ztk S b))]) (st2 := [az_i (zB S1 b 0), az_i (0), az_i (((g : Nat) : Int)), az_r 34]) (s2 := t1) rfl ?_
            refine az_to 0 (pc2 := 162) (lv2 := [some (az_r 34), some (az_i (((g : Nat) : Int))), some (az_i (((b : Nat) : Int))), some (az_i (zG S g 0)), some (az_i ((zdue S b - zG S g 1))), some (az_i (ztk S b))]) (st2 := [az_i (zB S b 0), az_i (0), az_i (((g : Nat) : Int)), az_r 34]) (s2 := t1) (by rw [eB 0 (by omega)]; rfl) ?_
            refine az_to 3 (pc2 := 165) (lv2 := [some (az_r 34), some (az_i (((g : Nat) : Int))), some (az_i (((b : Nat) : Int))), some (az_i (zG S g 0)), some (az_i ((zdue S b - zG S g 1))), some (az_i (ztk S b))]) (st2 := [az_i (1), az_i (((b : Nat) : Int)), az_r 34, az_i (zB S b 0), az_i (0), az_i (((g : Nat) : Int)), az_r 34]) (s2 := t1) rfl ?_
            refine az_clv (v := some (az_i (zB S1 b 1))) (t := t1) (m2 := am_m_X10_of) (as := [az_r 34, az_i (((b : Nat) : Int)), az_i (1)]) (rest := [az_i (zB S b 0), az_i (0), az_i (((g : Nat) : Int)), az_r 34]) 168 rfl rfl ⟨rfl, rfl⟩ (by omega) (zs_X10_of (s := t1) (b := b) (k := 1) (by omega) hT1 (by omega) (by omega)) ?_
            refine az_to 0 (pc2 := 168) (lv2 := [some (az_r 34), some (az_i (((g : Nat) : Int))), some (az_i (((b : Nat) : Int))), some (az_i (zG S g 0)), some (az_i ((zdue S b - zG S g 1))), some (az_i (ztk S b))]) (st2 := [az_i (zB S1 b 1), az_i (zB S b 0), az_i (0), az_i (((g : Nat) : Int)), az_r 34]) (s2 := t1) rfl ?_
            refine az_to 0 (pc2 := 168) (lv2 := [some (az_r 34), some (az_i (((g : Nat) : Int))), some (az_i (((b : Nat) : Int))), some (az_i (zG S g 0)), some (az_i ((zdue S b - zG S g 1))), some (az_i (ztk S b))]) (st2 := [az_i (zB S b 1), az_i (zB S b 0), az_i (0), az_i (((g : Nat) : Int)), az_r 34]) (s2 := t1) (by rw [eB 1 (by omega)]; rfl) ?_
            refine az_to 3 (pc2 := 171) (lv2 := [some (az_r 34), some (az_i (((g : Nat) : Int))), some (az_i (((b : Nat) : Int))), some (az_i (zG S g 0)), some (az_i ((zdue S b - zG S g 1))), some (az_i (ztk S b))]) (st2 := [az_i (((zB S b 0 + zB S b 1) - zG S g 0)), az_i (0), az_i (((g : Nat) : Int)), az_r 34]) (s2 := t1) rfl ?_
            refine az_clv (v := none) (t := am_up t1 35 (150 + 5 * g + 0) ((((zB S b 0 + zB S b 1) - zG S g 0)))) (m2 := am_m_X10_setsGoat) (as := [az_r 34, az_i (((g : Nat) : Int)), az_i (0), az_i (((zB S b 0 + zB S b 1) - zG S g 0))]) (rest := []) 174 rfl rfl ⟨rfl, rfl⟩ (by omega) (zs_X10_setsGoat (s := t1) (g := g) (k := 0) (v := (((zB S b 0 + zB S b 1) - zG S g 0))) (by omega) (by omega) (by omega)) ?_
            refine az_to 0 (pc2 := 174) (lv2 := [some (az_r 34), some (az_i (((g : Nat) : Int))), some (az_i (((b : Nat) : Int))), some (az_i (zG S g 0)), some (az_i ((zdue S b - zG S g 1))), some (az_i (ztk S b))]) (st2 := []) (s2 := am_up t1 35 (150 + 5 * g + 0) ((((zB S b 0 + zB S b 1) - zG S g 0)))) rfl ?_
            obtain ⟨S2, hS2⟩ : ∃ X, X = zup S1 (150 + 5 * g + 0) ((((zB S b 0 + zB S b 1) - zG S g 0))) := ⟨_, rfl⟩
            have hSS2 : (am_up t1 35 (150 + 5 * g + 0) ((((zB S b 0 + zB S b 1) - zG S g 0)))) 35 = S2 := by rw [hS2, ← hT1]; rfl
            refine az_to 6 (pc2 := 180) (lv2 := [some (az_r 34), some (az_i (((g : Nat) : Int))), some (az_i (((b : Nat) : Int))), some (az_i (zG S g 0)), some (az_i ((zdue S b - zG S g 1))), some (az_i (ztk S b))]) (st2 := [az_i (3), az_i (((g : Nat) : Int)), az_r 34, az_i (3), az_i (((g : Nat) : Int)), az_r 34]) (s2 := am_up t1 35 (150 + 5 * g + 0) ((((zB S b 0 + zB S b 1) - zG S g 0)))) rfl ?_
            refine az_clv (v := some (az_i (zG S2 g 3))) (t := am_up t1 35 (150 + 5 * g + 0) ((((zB S b 0 + zB S b 1) - zG S g 0)))) (m2 := am_m_X10_ofGoat) (as := [az_r 34, az_i (((g : Nat) : Int)), az_i (3)]) (rest := [az_i (3), az_i (((g : Nat) : Int)), az_r 34]) 183 rfl rfl ⟨rfl, rfl⟩ (by omega) (zs_X10_ofGoat (s := am_up t1 35 (150 + 5 * g + 0) ((((zB S b 0 + zB S b 1) - zG S g 0)))) (g := g) (k := 3) (by omega) hSS2 (by omega) (by omega)) ?_
            refine az_to 0 (pc2 := 183) (lv2 := [some (az_r 34), some (az_i (((g : Nat) : Int))), some (az_i (((b : Nat) : Int))), some (az_i (zG S g 0)), some (az_i ((zdue S b - zG S g 1))), some (az_i (ztk S b))]) (st2 := [az_i (zG S2 g 3), az_i (3), az_i (((g : Nat) : Int)), az_r 34]) (s2 := am_up t1 35 (150 + 5 * g + 0) ((((zB S b 0 + zB S b 1) - zG S g 0)))) rfl ?_
            refine az_to 0 (pc2 := 183) (lv2 := [some (az_r 34), some (az_i (((g : Nat) : Int))), some (az_i (((b : Nat) : Int))), some (az_i (zG S g 0)), some (az_i ((zdue S b - zG S g 1))), some (az_i (ztk S b))]) (st2 := [az_i (zG S g 3), az_i (3), az_i (((g : Nat) : Int)), az_r 34]) (s2 := am_up t1 35 (150 + 5 * g + 0) ((((zB S b 0 + zB S b 1) - zG S g 0)))) (by rw [show zG S2 g 3 = zG S g 3 from (by rw [hS2]; unfold zG; rw [zup_ne _ _ (by omega)]; exact eG 3 (by omega) (by omega))]; rfl) ?_
            refine az_to 2 (pc2 := 186) (lv2 := [some (az_r 34), some (az_i (((g : Nat) : Int))), some (az_i (((b : Nat) : Int))), some (az_i (zG S g 0)), some (az_i ((zdue S b - zG S g 1))), some (az_i (ztk S b))]) (st2 := [az_i ((zG S g 3 + ztk S b)), az_i (3), az_i (((g : Nat) : Int)), az_r 34]) (s2 := am_up t1 35 (150 + 5 * g + 0) ((((zB S b 0 + zB S b 1) - zG S g 0)))) rfl ?_
            refine az_clv (v := none) (t := am_up (am_up t1 35 (150 + 5 * g + 0) ((((zB S b 0 + zB S b 1) - zG S g 0)))) 35 (150 + 5 * g + 3) (((zG S g 3 + ztk S b)))) (m2 := am_m_X10_setsGoat) (as := [az_r 34, az_i (((g : Nat) : Int)), az_i (3), az_i ((zG S g 3 + ztk S b))]) (rest := []) 189 rfl rfl ⟨rfl, rfl⟩ (by omega) (zs_X10_setsGoat (s := am_up t1 35 (150 + 5 * g + 0) ((((zB S b 0 + zB S b 1) - zG S g 0)))) (g := g) (k := 3) (v := ((zG S g 3 + ztk S b))) (by omega) (by omega) (by omega)) ?_
            refine az_to 0 (pc2 := 189) (lv2 := [some (az_r 34), some (az_i (((g : Nat) : Int))), some (az_i (((b : Nat) : Int))), some (az_i (zG S g 0)), some (az_i ((zdue S b - zG S g 1))), some (az_i (ztk S b))]) (st2 := []) (s2 := am_up (am_up t1 35 (150 + 5 * g + 0) ((((zB S b 0 + zB S b 1) - zG S g 0)))) 35 (150 + 5 * g + 3) (((zG S g 3 + ztk S b)))) rfl ?_
            obtain ⟨S3, hS3⟩ : ∃ X, X = zup S2 (150 + 5 * g + 3) (((zG S g 3 + ztk S b))) := ⟨_, rfl⟩
            have hSS3 : (am_up (am_up t1 35 (150 + 5 * g + 0) ((((zB S b 0 + zB S b 1) - zG S g 0)))) 35 (150 + 5 * g + 3) (((zG S g 3 + ztk S b)))) 35 = S3 := by rw [hS3, ← hSS2]; rfl
            refine az_to 6 (pc2 := 195) (lv2 := [some (az_r 34), some (az_i (((g : Nat) : Int))), some (az_i (((b : Nat) : Int))), some (az_i (zG S g 0)), some (az_i ((zdue S b - zG S g 1))), some (az_i (ztk S b))]) (st2 := [az_i (4), az_i (((g : Nat) : Int)), az_r 34, az_i (4), az_i (((g : Nat) : Int)), az_r 34]) (s2 := am_up (am_up t1 35 (150 + 5 * g + 0) ((((zB S b 0 + zB S b 1) - zG S g 0)))) 35 (150 + 5 * g + 3) (((zG S g 3 + ztk S b)))) rfl ?_
            refine az_clv (v := some (az_i (zG S3 g 4))) (t := am_up (am_up t1 35 (150 + 5 * g + 0) ((((zB S b 0 + zB S b 1) - zG S g 0)))) 35 (150 + 5 * g + 3) (((zG S g 3 + ztk S b)))) (m2 := am_m_X10_ofGoat) (as := [az_r 34, az_i (((g : Nat) : Int)), az_i (4)]) (rest := [az_i (4), az_i (((g : Nat) : Int)), az_r 34]) 198 rfl rfl ⟨rfl, rfl⟩ (by omega) (zs_X10_ofGoat (s := am_up (am_up t1 35 (150 + 5 * g + 0) ((((zB S b 0 + zB S b 1) - zG S g 0)))) 35 (150 + 5 * g + 3) (((zG S g 3 + ztk S b)))) (g := g) (k := 4) (by omega) hSS3 (by omega) (by omega)) ?_
            refine az_to 0 (pc2 := 198) (lv2 := [some (az_r 34), some (az_i (((g : Nat) : Int))), some (az_i (((b : Nat) : Int))), some (az_i (zG S g 0)), some (az_i ((zdue S b - zG S g 1))), some (az_i (ztk S b))]) (st2 := [az_i (zG S3 g 4), az_i (4), az_i (((g : Nat) : Int)), az_r 34]) (s2 := am_up (am_up t1 35 (150 + 5 * g + 0) ((((zB S b 0 + zB S b 1) - zG S g 0)))) 35 (150 + 5 * g + 3) (((zG S g 3 + ztk S b)))) rfl ?_
            refine az_to 0 (pc2 := 198) (lv2 := [some (az_r 34), some (az_i (((g : Nat) : Int))), some (az_i (((b : Nat) : Int))), some (az_i (zG S g 0)), some (az_i ((zdue S b - zG S g 1))), some (az_i (ztk S b))]) (st2 := [az_i (zG S g 4), az_i (4), az_i (((g : Nat) : Int)), az_r 34]) (s2 := am_up (am_up t1 35 (150 + 5 * g + 0) ((((zB S b 0 + zB S b 1) - zG S g 0)))) 35 (150 + 5 * g + 3) (((zG S g 3 + ztk S b)))) (by rw [show zG S3 g 4 = zG S g 4 from (by rw [hS3, hS2]; unfold zG; rw [zup_ne _ _ (by omega), zup_ne _ _ (by omega)]; exact eG 4 (by omega) (by omega))]; rfl) ?_
            refine az_to 2 (pc2 := 200) (lv2 := [some (az_r 34), some (az_i (((g : Nat) : Int))), some (az_i (((b : Nat) : Int))), some (az_i (zG S g 0)), some (az_i ((zdue S b - zG S g 1))), some (az_i (ztk S b))]) (st2 := [az_i ((zG S g 4 + 1)), az_i (4), az_i (((g : Nat) : Int)), az_r 34]) (s2 := am_up (am_up t1 35 (150 + 5 * g + 0) ((((zB S b 0 + zB S b 1) - zG S g 0)))) 35 (150 + 5 * g + 3) (((zG S g 3 + ztk S b)))) rfl ?_
            refine az_clv (v := none) (t := am_up (am_up (am_up t1 35 (150 + 5 * g + 0) ((((zB S b 0 + zB S b 1) - zG S g 0)))) 35 (150 + 5 * g + 3) (((zG S g 3 + ztk S b)))) 35 (150 + 5 * g + 4) (((zG S g 4 + 1)))) (m2 := am_m_X10_setsGoat) (as := [az_r 34, az_i (((g : Nat) : Int)), az_i (4), az_i ((zG S g 4 + 1))]) (rest := []) 203 rfl rfl ⟨rfl, rfl⟩ (by omega) (zs_X10_setsGoat (s := am_up (am_up t1 35 (150 + 5 * g + 0) ((((zB S b 0 + zB S b 1) - zG S g 0)))) 35 (150 + 5 * g + 3) (((zG S g 3 + ztk S b)))) (g := g) (k := 4) (v := ((zG S g 4 + 1))) (by omega) (by omega) (by omega)) ?_
            refine az_to 0 (pc2 := 203) (lv2 := [some (az_r 34), some (az_i (((g : Nat) : Int))), some (az_i (((b : Nat) : Int))), some (az_i (zG S g 0)), some (az_i ((zdue S b - zG S g 1))), some (az_i (ztk S b))]) (st2 := []) (s2 := am_up (am_up (am_up t1 35 (150 + 5 * g + 0) ((((zB S b 0 + zB S b 1) - zG S g 0)))) 35 (150 + 5 * g + 3) (((zG S g 3 + ztk S b)))) 35 (150 + 5 * g + 4) (((zG S g 4 + 1)))) rfl ?_
            obtain ⟨S4, hS4⟩ : ∃ X, X = zup S3 (150 + 5 * g + 4) (((zG S g 4 + 1))) := ⟨_, rfl⟩
            have hSS4 : (am_up (am_up (am_up t1 35 (150 + 5 * g + 0) ((((zB S b 0 + zB S b 1) - zG S g 0)))) 35 (150 + 5 * g + 3) (((zG S g 3 + ztk S b)))) 35 (150 + 5 * g + 4) (((zG S g 4 + 1)))) 35 = S4 := by rw [hS4, ← hSS3]; rfl
            refine az_to 6 (pc2 := 211) (lv2 := [some (az_r 34), some (az_i (((g : Nat) : Int))), some (az_i (((b : Nat) : Int))), some (az_i (zG S g 0)), some (az_i ((zdue S b - zG S g 1))), some (az_i (ztk S b))]) (st2 := [az_i (6), az_i (((b : Nat) : Int)), az_r 34, az_i (6), az_i (((b : Nat) : Int)), az_r 34]) (s2 := am_up (am_up (am_up t1 35 (150 + 5 * g + 0) ((((zB S b 0 + zB S b 1) - zG S g 0)))) 35 (150 + 5 * g + 3) (((zG S g 3 + ztk S b)))) 35 (150 + 5 * g + 4) (((zG S g 4 + 1)))) rfl ?_
            refine az_clv (v := some (az_i (zB S4 b 6))) (t := am_up (am_up (am_up t1 35 (150 + 5 * g + 0) ((((zB S b 0 + zB S b 1) - zG S g 0)))) 35 (150 + 5 * g + 3) (((zG S g 3 + ztk S b)))) 35 (150 + 5 * g + 4) (((zG S g 4 + 1)))) (m2 := am_m_X10_of) (as := [az_r 34, az_i (((b : Nat) : Int)), az_i (6)]) (rest := [az_i (6), az_i (((b : Nat) : Int)), az_r 34]) 214 rfl rfl ⟨rfl, rfl⟩ (by omega) (zs_X10_of (s := am_up (am_up (am_up t1 35 (150 + 5 * g + 0) ((((zB S b 0 + zB S b 1) - zG S g 0)))) 35 (150 + 5 * g + 3) (((zG S g 3 + ztk S b)))) 35 (150 + 5 * g + 4) (((zG S g 4 + 1)))) (b := b) (k := 6) (by omega) hSS4 (by omega) (by omega)) ?_
            refine az_to 0 (pc2 := 214) (lv2 := [some (az_r 34), some (az_i (((g : Nat) : Int))), some (az_i (((b : Nat) : Int))), some (az_i (zG S g 0)), some (az_i ((zdue S b - zG S g 1))), some (az_i (ztk S b))]) (st2 := [az_i (zB S4 b 6), az_i (6), az_i (((b : Nat) : Int)), az_r 34]) (s2 := am_up (am_up (am_up t1 35 (150 + 5 * g + 0) ((((zB S b 0 + zB S b 1) - zG S g 0)))) 35 (150 + 5 * g + 3) (((zG S g 3 + ztk S b)))) 35 (150 + 5 * g + 4) (((zG S g 4 + 1)))) rfl ?_
            refine az_to 0 (pc2 := 214) (lv2 := [some (az_r 34), some (az_i (((g : Nat) : Int))), some (az_i (((b : Nat) : Int))), some (az_i (zG S g 0)), some (az_i ((zdue S b - zG S g 1))), some (az_i (ztk S b))]) (st2 := [az_i (zB S b 6), az_i (6), az_i (((b : Nat) : Int)), az_r 34]) (s2 := am_up (am_up (am_up t1 35 (150 + 5 * g + 0) ((((zB S b 0 + zB S b 1) - zG S g 0)))) 35 (150 + 5 * g + 3) (((zG S g 3 + ztk S b)))) 35 (150 + 5 * g + 4) (((zG S g 4 + 1)))) (by rw [show zB S4 b 6 = zB S b 6 from (by rw [hS4, hS3, hS2]; unfold zB; rw [zup_ne _ _ (by omega), zup_ne _ _ (by omega), zup_ne _ _ (by omega)]; exact eB 6 (by omega))]; rfl) ?_
            refine az_to 2 (pc2 := 216) (lv2 := [some (az_r 34), some (az_i (((g : Nat) : Int))), some (az_i (((b : Nat) : Int))), some (az_i (zG S g 0)), some (az_i ((zdue S b - zG S g 1))), some (az_i (ztk S b))]) (st2 := [az_i ((zB S b 6 + 1)), az_i (6), az_i (((b : Nat) : Int)), az_r 34]) (s2 := am_up (am_up (am_up t1 35 (150 + 5 * g + 0) ((((zB S b 0 + zB S b 1) - zG S g 0)))) 35 (150 + 5 * g + 3) (((zG S g 3 + ztk S b)))) 35 (150 + 5 * g + 4) (((zG S g 4 + 1)))) rfl ?_
            refine az_clv (v := none) (t := am_up (am_up (am_up (am_up t1 35 (150 + 5 * g + 0) ((((zB S b 0 + zB S b 1) - zG S g 0)))) 35 (150 + 5 * g + 3) (((zG S g 3 + ztk S b)))) 35 (150 + 5 * g + 4) (((zG S g 4 + 1)))) 35 (6 + 12 * b + 6) (((zB S b 6 + 1)))) (m2 := am_m_X10_sets) (as := [az_r 34, az_i (((b : Nat) : Int)), az_i (6), az_i ((zB S b 6 + 1))]) (rest := []) 219 rfl rfl ⟨rfl, rfl⟩ (by omega) (zs_X10_sets (s := am_up (am_up (am_up t1 35 (150 + 5 * g + 0) ((((zB S b 0 + zB S b 1) - zG S g 0)))) 35 (150 + 5 * g + 3) (((zG S g 3 + ztk S b)))) 35 (150 + 5 * g + 4) (((zG S g 4 + 1)))) (b := b) (k := 6) (v := ((zB S b 6 + 1))) (by omega) (by omega) (by omega)) ?_
            refine az_to 0 (pc2 := 219) (lv2 := [some (az_r 34), some (az_i (((g : Nat) : Int))), some (az_i (((b : Nat) : Int))), some (az_i (zG S g 0)), some (az_i ((zdue S b - zG S g 1))), some (az_i (ztk S b))]) (st2 := []) (s2 := am_up (am_up (am_up (am_up t1 35 (150 + 5 * g + 0) ((((zB S b 0 + zB S b 1) - zG S g 0)))) 35 (150 + 5 * g + 3) (((zG S g 3 + ztk S b)))) 35 (150 + 5 * g + 4) (((zG S g 4 + 1)))) 35 (6 + 12 * b + 6) (((zB S b 6 + 1)))) rfl ?_
            obtain ⟨S5, hS5⟩ : ∃ X, X = zup S4 (6 + 12 * b + 6) (((zB S b 6 + 1))) := ⟨_, rfl⟩
            have hSS5 : (am_up (am_up (am_up (am_up t1 35 (150 + 5 * g + 0) ((((zB S b 0 + zB S b 1) - zG S g 0)))) 35 (150 + 5 * g + 3) (((zG S g 3 + ztk S b)))) 35 (150 + 5 * g + 4) (((zG S g 4 + 1)))) 35 (6 + 12 * b + 6) (((zB S b 6 + 1)))) 35 = S5 := by rw [hS5, ← hSS4]; rfl
            refine az_to 4 (pc2 := 225) (lv2 := [some (az_r 34), some (az_i (((g : Nat) : Int))), some (az_i (((b : Nat) : Int))), some (az_i (zG S g 0)), some (az_i ((zdue S b - zG S g 1))), some (az_i (ztk S b))]) (st2 := [az_i (4), az_r 35, az_i (4), az_r 35]) (s2 := am_up (am_up (am_up (am_up t1 35 (150 + 5 * g + 0) ((((zB S b 0 + zB S b 1) - zG S g 0)))) 35 (150 + 5 * g + 3) (((zG S g 3 + ztk S b)))) 35 (150 + 5 * g + 4) (((zG S g 4 + 1)))) 35 (6 + 12 * b + 6) (((zB S b 6 + 1)))) rfl ?_
            refine az_ld_i 226 rfl rfl (by constructor <;> omega) ⟨by decide, rfl⟩ ?_
            refine az_to 0 (pc2 := 226) (lv2 := [some (az_r 34), some (az_i (((g : Nat) : Int))), some (az_i (((b : Nat) : Int))), some (az_i (zG S g 0)), some (az_i ((zdue S b - zG S g 1))), some (az_i (ztk S b))]) (st2 := [az_i ((am_up (am_up (am_up (am_up t1 35 (150 + 5 * g + 0) ((((zB S b 0 + zB S b 1) - zG S g 0)))) 35 (150 + 5 * g + 3) (((zG S g 3 + ztk S b)))) 35 (150 + 5 * g + 4) (((zG S g 4 + 1)))) 35 (6 + 12 * b + 6) (((zB S b 6 + 1)))) 35 4), az_i (4), az_r 35]) (s2 := am_up (am_up (am_up (am_up t1 35 (150 + 5 * g + 0) ((((zB S b 0 + zB S b 1) - zG S g 0)))) 35 (150 + 5 * g + 3) (((zG S g 3 + ztk S b)))) 35 (150 + 5 * g + 4) (((zG S g 4 + 1)))) 35 (6 + 12 * b + 6) (((zB S b 6 + 1)))) rfl ?_
            refine az_to 0 (pc2 := 226) (lv2 := [some (az_r 34), some (az_i (((g : Nat) : Int))), some (az_i (((b : Nat) : Int))), some (az_i (zG S g 0)), some (az_i ((zdue S b - zG S g 1))), some (az_i (ztk S b))]) (st2 := [az_i (S 4), az_i (4), az_r 35]) (s2 := am_up (am_up (am_up (am_up t1 35 (150 + 5 * g + 0) ((((zB S b 0 + zB S b 1) - zG S g 0)))) 35 (150 + 5 * g + 3) (((zG S g 3 + ztk S b)))) 35 (150 + 5 * g + 4) (((zG S g 4 + 1)))) 35 (6 + 12 * b + 6) (((zB S b 6 + 1)))) (by rw [show (am_up (am_up (am_up (am_up t1 35 (150 + 5 * g + 0) ((((zB S b 0 + zB S b 1) - zG S g 0)))) 35 (150 + 5 * g + 3) (((zG S g 3 + ztk S b)))) 35 (150 + 5 * g + 4) (((zG S g 4 + 1)))) 35 (6 + 12 * b + 6) (((zB S b 6 + 1)))) 35 4 = S 4 from (by rw [hSS5, hS5, hS4, hS3, hS2, zup_ne _ _ (by omega), zup_ne _ _ (by omega), zup_ne _ _ (by omega), zup_ne _ _ (by omega)]; exact e4)]; rfl) ?_
            refine az_to 2 (pc2 := 228) (lv2 := [some (az_r 34), some (az_i (((g : Nat) : Int))), some (az_i (((b : Nat) : Int))), some (az_i (zG S g 0)), some (az_i ((zdue S b - zG S g 1))), some (az_i (ztk S b))]) (st2 := [az_i ((S 4 + 1)), az_i (4), az_r 35]) (s2 := am_up (am_up (am_up (am_up t1 35 (150 + 5 * g + 0) ((((zB S b 0 + zB S b 1) - zG S g 0)))) 35 (150 + 5 * g + 3) (((zG S g 3 + ztk S b)))) 35 (150 + 5 * g + 4) (((zG S g 4 + 1)))) 35 (6 + 12 * b + 6) (((zB S b 6 + 1)))) rfl ?_
            refine az_st_i 229 rfl rfl (by constructor <;> omega) ⟨by decide, rfl⟩ ?_
            refine az_to 1 (pc2 := 231) (lv2 := [some (az_r 34), some (az_i (((g : Nat) : Int))), some (az_i (((b : Nat) : Int))), some (az_i (zG S g 0)), some (az_i ((zdue S b - zG S g 1))), some (az_i (ztk S b))]) (st2 := [az_i (ztk S b)]) (s2 := am_up (am_up (am_up (am_up (am_up t1 35 (150 + 5 * g + 0) ((((zB S b 0 + zB S b 1) - zG S g 0)))) 35 (150 + 5 * g + 3) (((zG S g 3 + ztk S b)))) 35 (150 + 5 * g + 4) (((zG S g 4 + 1)))) 35 (6 + 12 * b + 6) (((zB S b 6 + 1)))) 35 4 ((S 4 + 1))) rfl ?_
            refine az_retI rfl rfl ?_
            have e : zo_cross S ((g : Nat) : Int) ((b : Nat) : Int) = (0, ztk S b, 0, zcS S g b) := by
              simp only [zo_cross, Int.toNat_natCast]
              rw [if_neg (by omega), if_neg (by omega), if_neg (by omega), if_neg (by omega)]
            rw [e]
            exact ⟨rfl, (by unfold zcS; rw [← hS1, ← hS2, ← hS3, ← hS4, ← hS5, ← hSS5]; rfl), (by show t1 34 6 = _; rw [hF1 34 (by decide)]; rfl), (fun h => absurd (show (0 : Nat) = 3 from h) (by decide)), (fun _ => ⟨(by show t1 34 7 = _; rw [hF1 34 (by decide)]; rfl), (by show t1 34 8 = _; rw [hF1 34 (by decide)]; rfl), (by show t1 34 9 = _; rw [hF1 34 (by decide)]; rfl)⟩), (fun j h6 h7 h8 h9 => by have q9 := congrFun (hF1 34 (by decide)) j; simp [am_up, h6, h7, h8, h9] at q9 ⊢; exact q9), (fun i h1 h2 => by funext j; have q8 := congrFun (hF1 i h2) j; simp [am_up, h1, h2] at q8 ⊢; exact q8)⟩
          · have h5 : ¬ ((zdue S b - zG S g 1) ≤ 0) := h5
            refine az_to 4 (pc2 := 127) (lv2 := [some (az_r 34), some (az_i (((g : Nat) : Int))), some (az_i (((b : Nat) : Int))), some (az_i (zG S g 0)), some (az_i ((zdue S b - zG S g 1))), none]) (st2 := [az_i ((zdue S b - zG S g 1)), az_i (8), az_i (1), az_r 34]) (s2 := am_up s 34 6 (0)) rfl ?_
            refine az_clv (v := some (az_i (1))) (t := am_up (am_up (am_up (am_up (am_up s 34 6 (0)) 34 7 (8)) 34 8 (((zdue S b - zG S g 1)))) 34 9 (0)) 34 6 (9)) (m2 := am_m_X10_isRefused) (as := [az_r 34, az_i (1), az_i (8), az_i ((zdue S b - zG S g 1))]) (rest := []) 130 rfl rfl ⟨rfl, rfl⟩ (by omega) (zs_X10_isRefused_t (s := am_up s 34 6 (0)) (v := 8) (w := ((zdue S b - zG S g 1))) (by omega) ) ?_
            refine az_to 0 (pc2 := 130) (lv2 := [some (az_r 34), some (az_i (((g : Nat) : Int))), some (az_i (((b : Nat) : Int))), some (az_i (zG S g 0)), some (az_i ((zdue S b - zG S g 1))), none]) (st2 := [az_i (1)]) (s2 := am_up (am_up (am_up (am_up (am_up s 34 6 (0)) 34 7 (8)) 34 8 (((zdue S b - zG S g 1)))) 34 9 (0)) 34 6 (9)) rfl ?_
            refine az_ifc 135 133 rfl (by decide) ⟨by decide, by decide⟩ (fun h => absurd h (by unfold az_cnd; decide)) (fun _ => ?_)
            refine az_to 1 (pc2 := 134) (lv2 := [some (az_r 34), some (az_i (((g : Nat) : Int))), some (az_i (((b : Nat) : Int))), some (az_i (zG S g 0)), some (az_i ((zdue S b - zG S g 1))), none]) (st2 := [az_i (0)]) (s2 := am_up (am_up (am_up (am_up (am_up s 34 6 (0)) 34 7 (8)) 34 8 (((zdue S b - zG S g 1)))) 34 9 (0)) 34 6 (9)) rfl ?_
            refine az_retI rfl rfl ?_
            have e : zo_cross S ((g : Nat) : Int) ((b : Nat) : Int) = (3, 8, ((zdue S b - zG S g 1)), S) := by
              simp only [zo_cross, Int.toNat_natCast]
              first | (rw [if_pos (by omega)]) | (rw [if_neg (by omega), if_pos (by omega)]) | (rw [if_neg (by omega), if_neg (by omega), if_pos (by omega)]) | (rw [if_neg (by omega), if_neg (by omega), if_neg (by omega), if_pos (by omega)]) | (rw [if_neg (by omega), if_neg (by omega), if_neg (by omega), if_neg (by omega), if_pos (by omega)])
            rw [e]
            exact ⟨rfl, hS, rfl, (fun _ => ⟨rfl, rfl, rfl⟩), (fun h => absurd rfl h), (fun j h6 h7 h8 h9 => by simp [am_up, h6, h7, h8, h9]), (fun i h1 h2 => by funext j; simp [am_up, h1, h2])⟩
        · have h4 : ¬ (zB S b 0 = zG S g 0) := h4
          refine az_to 3 (pc2 := 91) (lv2 := [some (az_r 34), some (az_i (((g : Nat) : Int))), some (az_i (((b : Nat) : Int))), some (az_i (zG S g 0)), some (az_i ((zdue S b - zG S g 1))), none]) (st2 := [az_i (1), az_i (((b : Nat) : Int)), az_r 34, az_r 34]) (s2 := am_up s 34 6 (0)) rfl ?_
          refine az_clv (v := some (az_i (zB S b 1))) (t := am_up s 34 6 (0)) (m2 := am_m_X10_of) (as := [az_r 34, az_i (((b : Nat) : Int)), az_i (1)]) (rest := [az_r 34]) 94 rfl rfl ⟨rfl, rfl⟩ (by omega) (zs_X10_of (s := am_up s 34 6 (0)) (b := b) (k := 1) (by omega) hS (by omega) (by omega)) ?_
          refine az_to 0 (pc2 := 94) (lv2 := [some (az_r 34), some (az_i (((g : Nat) : Int))), some (az_i (((b : Nat) : Int))), some (az_i (zG S g 0)), some (az_i ((zdue S b - zG S g 1))), none]) (st2 := [az_i (zB S b 1), az_r 34]) (s2 := am_up s 34 6 (0)) rfl ?_
          refine az_to 1 (pc2 := 95) (lv2 := [some (az_r 34), some (az_i (((g : Nat) : Int))), some (az_i (((b : Nat) : Int))), some (az_i (zG S g 0)), some (az_i ((zdue S b - zG S g 1))), none]) (st2 := [az_i (zG S g 0), az_i (zB S b 1), az_r 34]) (s2 := am_up s 34 6 (0)) rfl ?_
          refine az_if2 102 98 rfl (by decide) (by first | assumption | exact ⟨by omega, by omega⟩) (by first | assumption | exact ⟨by omega, by omega⟩) (fun h6 => ?_) (fun h6 => ?_)
          · have h6 : zB S b 1 = zG S g 0 := h6
            refine az_to 3 (pc2 := 106) (lv2 := [some (az_r 34), some (az_i (((g : Nat) : Int))), some (az_i (((b : Nat) : Int))), some (az_i (zG S g 0)), some (az_i ((zdue S b - zG S g 1))), none]) (st2 := [az_i (zG S g 0), az_i (7), az_i (0), az_r 34]) (s2 := am_up s 34 6 (0)) rfl ?_
            refine az_clv (v := some (az_i (0))) (t := am_up s 34 6 (0)) (m2 := am_m_X10_isRefused) (as := [az_r 34, az_i (0), az_i (7), az_i (zG S g 0)]) (rest := []) 109 rfl rfl ⟨rfl, rfl⟩ (by omega) (zs_X10_isRefused_f (s := am_up s 34 6 (0)) (v := 7) (w := (zG S g 0)) (by omega) ) ?_
            refine az_to 0 (pc2 := 109) (lv2 := [some (az_r 34), some (az_i (((g : Nat) : Int))), some (az_i (((b : Nat) : Int))), some (az_i (zG S g 0)), some (az_i ((zdue S b - zG S g 1))), none]) (st2 := [az_i (0)]) (s2 := am_up s 34 6 (0)) rfl ?_
            refine az_ifc 133 112 rfl (by decide) ⟨by decide, by decide⟩ (fun h => absurd h (by unfold az_cnd; decide)) (fun _ => ?_)
            refine az_to 2 (pc2 := 115) (lv2 := [some (az_r 34), some (az_i (((g : Nat) : Int))), some (az_i (((b : Nat) : Int))), some (az_i (zG S g 0)), some (az_i ((zdue S b - zG S g 1))), none]) (st2 := [az_i ((zdue S b - zG S g 1)), az_r 34]) (s2 := am_up s 34 6 (0)) rfl ?_
            refine az_ifc 122 118 rfl (by decide) (by first | assumption | exact ⟨by omega, by omega⟩) (fun h7 => ?_) (fun h7 => ?_)
            · have h7 : (zdue S b - zG S g 1) ≤ 0 := h7
              refine az_to 3 (pc2 := 127) (lv2 := [some (az_r 34), some (az_i (((g : Nat) : Int))), some (az_i (((b : Nat) : Int))), some (az_i (zG S g 0)), some (az_i ((zdue S b - zG S g 1))), none]) (st2 := [az_i ((zdue S b - zG S g 1)), az_i (8), az_i (0), az_r 34]) (s2 := am_up s 34 6 (0)) rfl ?_
              refine az_clv (v := some (az_i (0))) (t := am_up s 34 6 (0)) (m2 := am_m_X10_isRefused) (as := [az_r 34, az_i (0), az_i (8), az_i ((zdue S b - zG S g 1))]) (rest := []) 130 rfl rfl ⟨rfl, rfl⟩ (by omega) (zs_X10_isRefused_f (s := am_up s 34 6 (0)) (v := 8) (w := ((zdue S b - zG S g 1))) (by omega) ) ?_
              refine az_to 0 (pc2 := 130) (lv2 := [some (az_r 34), some (az_i (((g : Nat) : Int))), some (az_i (((b : Nat) : Int))), some (az_i (zG S g 0)), some (az_i ((zdue S b - zG S g 1))), none]) (st2 := [az_i (0)]) (s2 := am_up s 34 6 (0)) rfl ?_
              refine az_ifc 135 133 rfl (by decide) ⟨by decide, by decide⟩ (fun _ => ?_) (fun h => absurd (show az_cnd _ _ _ by unfold az_cnd; decide) h)
              refine az_to 2 (pc2 := 137) (lv2 := [some (az_r 34), some (az_i (((g : Nat) : Int))), some (az_i (((b : Nat) : Int))), some (az_i (zG S g 0)), some (az_i ((zdue S b - zG S g 1))), none]) (st2 := [az_i (((b : Nat) : Int)), az_r 34]) (s2 := am_up s 34 6 (0)) rfl ?_
              refine az_clv (v := some (az_i (ztk S b))) (t := am_up s 34 6 (0)) (m2 := am_m_X10_takesAt) (as := [az_r 34, az_i (((b : Nat) : Int))]) (rest := []) 140 rfl rfl ⟨rfl, rfl⟩ (by omega) (zs_X10_takesAt (s := am_up s 34 6 (0)) (b := b) (by omega) hS hI hh (by omega)) ?_
              refine az_to 0 (pc2 := 140) (lv2 := [some (az_r 34), some (az_i (((g : Nat) : Int))), some (az_i (((b : Nat) : Int))), some (az_i (zG S g 0)), some (az_i ((zdue S b - zG S g 1))), none]) (st2 := [az_i (ztk S b)]) (s2 := am_up s 34 6 (0)) rfl ?_
              refine az_to 6 (pc2 := 147) (lv2 := [some (az_r 34), some (az_i (((g : Nat) : Int))), some (az_i (((b : Nat) : Int))), some (az_i (zG S g 0)), some (az_i ((zdue S b - zG S g 1))), some (az_i (ztk S b))]) (st2 := [az_i (((b : Nat) : Int)), az_r 34, az_i (((b : Nat) : Int)), az_i (((g : Nat) : Int)), az_r 34]) (s2 := am_up s 34 6 (0)) rfl ?_
              refine az_clv (v := some (az_i (zdue S b))) (t := am_up s 34 6 (0)) (m2 := am_m_X10_dueAt) (as := [az_r 34, az_i (((b : Nat) : Int))]) (rest := [az_i (((b : Nat) : Int)), az_i (((g : Nat) : Int)), az_r 34]) 150 rfl rfl ⟨rfl, rfl⟩ (by omega) (zs_X10_dueAt (s := am_up s 34 6 (0)) (b := b) (by omega) hS hI hh (by omega)) ?_
              refine az_to 0 (pc2 := 150) (lv2 := [some (az_r 34), some (az_i (((g : Nat) : Int))), some (az_i (((b : Nat) : Int))), some (az_i (zG S g 0)), some (az_i ((zdue S b - zG S g 1))), some (az_i (ztk S b))]) (st2 := [az_i (zdue S b), az_i (((b : Nat) : Int)), az_i (((g : Nat) : Int)), az_r 34]) (s2 := am_up s 34 6 (0)) rfl ?_
              refine az_cl (m2 := am_m_X10_pays) (as := [az_r 34, az_i (((g : Nat) : Int)), az_i (((b : Nat) : Int)), az_i (zdue S b)]) (rest := []) 153 rfl rfl ⟨rfl, rfl⟩ (by omega) (zs_X10_pays (s := am_up s 34 6 (0)) (g := g) (b := b) (by omega) hS hI hh (by omega) (by omega) (by omega)) (fun v1 t1 q1 => ?_) (fun E t1 q1 => by cases q1.1)
              obtain ⟨q1a, hT1, hF1⟩ := q1
              cases q1a
              obtain ⟨S1, hS1⟩ : ∃ X, X = zpS S g b := ⟨_, rfl⟩
              rw [← hS1] at hT1
              have hat := zat_r hI b
              have eB : ∀ k, k < 7 → zB S1 b k = zB S b k := fun k hk => by rw [hS1]; exact zpS_o (by omega) (by omega) (by omega)
              have eG : ∀ k, k ≠ 1 → k < 5 → zG S1 g k = zG S g k := fun k hk hk2 => by rw [hS1]; exact zpS_o (by omega) (by omega) (by omega)
              have e4 : S1 4 = S 4 := by rw [hS1]; exact zpS_o (by omega) (by omega) (by omega)
              refine az_to 0 (pc2 := 153) (lv2 := [some (az_r 34), some (az_i (((g : Nat) : Int))), some (az_i (((b : Nat) : Int))), some (az_i (zG S g 0)), some (az_i ((zdue S b - zG S g 1))), some (az_i (ztk S b))]) (st2 := []) (s2 := t1) rfl ?_
              refine az_to 6 (pc2 := 159) (lv2 := [some (az_r 34), some (az_i (((g : Nat) : Int))), some (az_i (((b : Nat) : Int))), some (az_i (zG S g 0)), some (az_i ((zdue S b - zG S g 1))), some (az_i (ztk S b))]) (st2 := [az_i (0), az_i (((b : Nat) : Int)), az_r 34, az_i (0), az_i (((g : Nat) : Int)), az_r 34]) (s2 := t1) rfl ?_
              refine az_clv (v := some (az_i (zB S1 b 0))) (t := t1) (m2 := am_m_X10_of) (as := [az_r 34, az_i (((b : Nat) : Int)), az_i (0)]) (rest := [az_i (0), az_i (((g : Nat) : Int)), az_r 34]) 162 rfl rfl ⟨rfl, rfl⟩ (by omega) (zs_X10_of (s := t1) (b := b) (k := 0) (by omega) hT1 (by omega) (by omega)) ?_
              refine az_to 0 (pc2 := 162) (lv2 := [some (az_r 34), some (az_i (((g : Nat) : Int))), some (az_i (((b : Nat) : Int))), some (az_i (zG S g 0)), some (az_i ((zdue S b - zG S g 1))), some (az_i (ztk S b))]) (st2 := [az_i (zB S1 b 0), az_i (0), az_i (((g : Nat) : Int)), az_r 34]) (s2 := t1) rfl ?_
              refine az_to 0 (pc2 := 162) (lv2 := [some (az_r 34), some (az_i (((g : Nat) : Int))), some (az_i (((b : Nat) : Int))), some (az_i (zG S g 0)), some (az_i ((zdue S b - zG S g 1))), some (az_i (ztk S b))]) (st2 := [az_i (zB S b 0), az_i (0), az_i (((g : Nat) : Int)), az_r 34]) (s2 := t1) (by rw [eB 0 (by omega)]; rfl) ?_
              refine az_to 3 (pc2 := 165) (lv2 := [some (az_r 34), some (az_i (((g : Nat) : Int))), some (az_i (((b : Nat) : Int))), some (az_i (zG S g 0)), some (az_i ((zdue S b - zG S g 1))), some (az_i (ztk S b))]) (st2 := [az_i (1), az_i (((b : Nat) : Int)), az_r 34, az_i (zB S b 0), az_i (0), az_i (((g : Nat) : Int)), az_r 34]) (s2 := t1) rfl ?_
              refine az_clv (v := some (az_i (zB S1 b 1))) (t := t1) (m2 := am_m_X10_of) (as := [az_r 34, az_i (((b : Nat) : Int)), az_i (1)]) (rest := [az_i (zB S b 0), az_i (0), az_i (((g : Nat) : Int)), az_r 34]) 168 rfl rfl ⟨rfl, rfl⟩ (by omega) (zs_X10_of (s := t1) (b := b) (k := 1) (by omega) hT1 (by omega) (by omega)) ?_
              refine az_to 0 (pc2 := 168) (lv2 := [some (az_r 34), some (az_i (((g : Nat) : Int))), some (az_i (((b : Nat) : Int))), some (az_i (zG S g 0)), some (az_i ((zdue S b - zG S g 1))), some (az_i (ztk S b))]) (st2 := [az_i (zB S1 b 1), az_i (zB S b 0), az_i (0), az_i (((g : Nat) : Int)), az_r 34]) (s2 := t1) rfl ?_
              refine az_to 0 (pc2 := 168) (lv2 := [some (az_r 34), some (az_i (((g : Nat) : Int))), some (az_i (((b : Nat) : Int))), some (az_i (zG S g 0)), some (az_i ((zdue S b - zG S g 1))), some (az_i (ztk S b))]) (st2 := [az_i (zB S b 1), az_i (zB S b 0), az_i (0), az_i (((g : Nat) : Int)), az_r 34]) (s2 := t1) (by rw [eB 1 (by omega)]; rfl) ?_
              refine az_to 3 (pc2 := 171) (lv2 := [some (az_r 34), some (az_i (((g : Nat) : Int))), some (az_i (((b : Nat) : Int))), some (az_i (zG S g 0)), some (az_i ((zdue S b - zG S g 1))), some (az_i (ztk S b))]) (st2 := [az_i (((zB S b 0 + zB S b 1) - zG S g 0)), az_i (0), az_i (((g : Nat) : Int)), az_r 34]) (s2 := t1) rfl ?_
              refine az_clv (v := none) (t := am_up t1 35 (150 + 5 * g + 0) ((((zB S b 0 + zB S b 1) - zG S g 0)))) (m2 := am_m_X10_setsGoat) (as := [az_r 34, az_i (((g : Nat) : Int)), az_i (0), az_i (((zB S b 0 + zB S b 1) - zG S g 0))]) (rest := []) 174 rfl rfl ⟨rfl, rfl⟩ (by omega) (zs_X10_setsGoat (s := t1) (g := g) (k := 0) (v := (((zB S b 0 + zB S b 1) - zG S g 0))) (by omega) (by omega) (by omega)) ?_
              refine az_to 0 (pc2 := 174) (lv2 := [some (az_r 34), some (az_i (((g : Nat) : Int))), some (az_i (((b : Nat) : Int))), some (az_i (zG S g 0)), some (az_i ((zdue S b - zG S g 1))), some (az_i (ztk S b))]) (st2 := []) (s2 := am_up t1 35 (150 + 5 * g + 0) ((((zB S b 0 + zB S b 1) - zG S g 0)))) rfl ?_
              obtain ⟨S2, hS2⟩ : ∃ X, X = zup S1 (150 + 5 * g + 0) ((((zB S b 0 + zB S b 1) - zG S g 0))) := ⟨_, rfl⟩
              have hSS2 : (am_up t1 35 (150 + 5 * g + 0) ((((zB S b 0 + zB S b 1) - zG S g 0)))) 35 = S2 := by rw [hS2, ← hT1]; rfl
              refine az_to 6 (pc2 := 180) (lv2 := [some (az_r 34), some (az_i (((g : Nat) : Int))), some (az_i (((b : Nat) : Int))), some (az_i (zG S g 0)), some (az_i ((zdue S b - zG S g 1))), some (az_i (ztk S b))]) (st2 := [az_i (3), az_i (((g : Nat) : Int)), az_r 34, az_i (3), az_i (((g : Nat) : Int)), az_r 34]) (s2 := am_up t1 35 (150 + 5 * g + 0) ((((zB S b 0 + zB S b 1) - zG S g 0)))) rfl ?_
              refine az_clv (v := some (az_i (zG S2 g 3))) (t := am_up t1 35 (150 + 5 * g + 0) ((((zB S b 0 + zB S b 1) - zG S g 0)))) (m2 := am_m_X10_ofGoat) (as := [az_r 34, az_i (((g : Nat) : Int)), az_i (3)]) (rest := [az_i (3), az_i (((g : Nat) : Int)), az_r 34]) 183 rfl rfl ⟨rfl, rfl⟩ (by omega) (zs_X10_ofGoat (s := am_up t1 35 (150 + 5 * g + 0) ((((zB S b 0 + zB S b 1) - zG S g 0)))) (g := g) (k := 3) (by omega) hSS2 (by omega) (by omega)) ?_
              refine az_to 0 (pc2 := 183) (lv2 := [some (az_r 34), some (az_i (((g : Nat) : Int))), some (az_i (((b : Nat) : Int))), some (az_i (zG S g 0)), some (az_i ((zdue S b - zG S g 1))), some (az_i (ztk S b))]) (st2 := [az_i (zG S2 g 3), az_i (3), az_i (((g : Nat) : Int)), az_r 34]) (s2 := am_up t1 35 (150 + 5 * g + 0) ((((zB S b 0 + zB S b 1) - zG S g 0)))) rfl ?_
              refine az_to 0 (pc2 := 183) (lv2 := [some (az_r 34), some (az_i (((g : Nat) : Int))), some (az_i (((b : Nat) : Int))), some (az_i (zG S g 0)), some (az_i ((zdue S b - zG S g 1))), some (az_i (ztk S b))]) (st2 := [az_i (zG S g 3), az_i (3), az_i (((g : Nat) : Int)), az_r 34]) (s2 := am_up t1 35 (150 + 5 * g + 0) ((((zB S b 0 + zB S b 1) - zG S g 0)))) (by rw [show zG S2 g 3 = zG S g 3 from (by rw [hS2]; unfold zG; rw [zup_ne _ _ (by omega)]; exact eG 3 (by omega) (by omega))]; rfl) ?_
              refine az_to 2 (pc2 := 186) (lv2 := [some (az_r 34), some (az_i (((g : Nat) : Int))), some (az_i (((b : Nat) : Int))), some (az_i (zG S g 0)), some (az_i ((zdue S b - zG S g 1))), some (az_i (ztk S b))]) (st2 := [az_i ((zG S g 3 + ztk S b)), az_i (3), az_i (((g : Nat) : Int)), az_r 34]) (s2 := am_up t1 35 (150 + 5 * g + 0) ((((zB S b 0 + zB S b 1) - zG S g 0)))) rfl ?_
              refine az_clv (v := none) (t := am_up (am_up t1 35 (150 + 5 * g + 0) ((((zB S b 0 + zB S b 1) - zG S g 0)))) 35 (150 + 5 * g + 3) (((zG S g 3 + ztk S b)))) (m2 := am_m_X10_setsGoat) (as := [az_r 34, az_i (((g : Nat) : Int)), az_i (3), az_i ((zG S g 3 + ztk S b))]) (rest := []) 189 rfl rfl ⟨rfl, rfl⟩ (by omega) (zs_X10_setsGoat (s := am_up t1 35 (150 + 5 * g + 0) ((((zB S b 0 + zB S b 1) - zG S g 0)))) (g := g) (k := 3) (v := ((zG S g 3 + ztk S b))) (by omega) (by omega) (by omega)) ?_
              refine az_to 0 (pc2 := 189) (lv2 := [some (az_r 34), some (az_i (((g : Nat) : Int))), some (az_i (((b : Nat) : Int))), some (az_i (zG S g 0)), some (az_i ((zdue S b - zG S g 1))), some (az_i (ztk S b))]) (st2 := []) (s2 := am_up (am_up t1 35 (150 + 5 * g + 0) ((((zB S b 0 + zB S b 1) - zG S g 0)))) 35 (150 + 5 * g + 3) (((zG S g 3 + ztk S b)))) rfl ?_
              obtain ⟨S3, hS3⟩ : ∃ X, X = zup S2 (150 + 5 * g + 3) (((zG S g 3 + ztk S b))) := ⟨_, rfl⟩
              have hSS3 : (am_up (am_up t1 35 (150 + 5 * g + 0) ((((zB S b 0 + zB S b 1) - zG S g 0)))) 35 (150 + 5 * g + 3) (((zG S g 3 + ztk S b)))) 35 = S3 := by rw [hS3, ← hSS2]; rfl
              refine az_to 6 (pc2 := 195) (lv2 := [some (az_r 34), some (az_i (((g : Nat) : Int))), some (az_i (((b : Nat) : Int))), some (az_i (zG S g 0)), some (az_i ((zdue S b - zG S g 1))), some (az_i (ztk S b))]) (st2 := [az_i (4), az_i (((g : Nat) : Int)), az_r 34, az_i (4), az_i (((g : Nat) : Int)), az_r 34]) (s2 := am_up (am_up t1 35 (150 + 5 * g + 0) ((((zB S b 0 + zB S b 1) - zG S g 0)))) 35 (150 + 5 * g + 3) (((zG S g 3 + ztk S b)))) rfl ?_
              refine az_clv (v := some (az_i (zG S3 g 4))) (t := am_up (am_up t1 35 (150 + 5 * g + 0) ((((zB S b 0 + zB S b 1) - zG S g 0)))) 35 (150 + 5 * g + 3) (((zG S g 3 + ztk S b)))) (m2 := am_m_X10_ofGoat) (as := [az_r 34, az_i (((g : Nat) : Int)), az_i (4)]) (rest := [az_i (4), az_i (((g : Nat) : Int)), az_r 34]) 198 rfl rfl ⟨rfl, rfl⟩ (by omega) (zs_X10_ofGoat (s := am_up (am_up t1 35 (150 + 5 * g + 0) ((((zB S b 0 + zB S b 1) - zG S g 0)))) 35 (150 + 5 * g + 3) (((zG S g 3 + ztk S b)))) (g := g) (k := 4) (by omega) hSS3 (by omega) (by omega)) ?_
              refine az_to 0 (pc2 := 198) (lv2 := [some (az_r 34), some (az_i (((g : Nat) : Int))), some (az_i (((b : Nat) : Int))), some (az_i (zG S g 0)), some (az_i ((zdue S b - zG S g 1))), some (az_i (ztk S b))]) (st2 := [az_i (zG S3 g 4), az_i (4), az_i (((g : Nat) : Int)), az_r 34]) (s2 := am_up (am_up t1 35 (150 + 5 * g + 0) ((((zB S b 0 + zB S b 1) - zG S g 0)))) 35 (150 + 5 * g + 3) (((zG S g 3 + ztk S b)))) rfl ?_
              refine az_to 0 (pc2 := 198) (lv2 := [some (az_r 34), some (az_i (((g : Nat) : Int))), some (az_i (((b : Nat) : Int))), some (az_i (zG S g 0)), some (az_i ((zdue S b - zG S g 1))), some (az_i (ztk S b))]) (st2 := [az_i (zG S g 4), az_i (4), az_i (((g : Nat) : Int)), az_r 34]) (s2 := am_up (am_up t1 35 (150 + 5 * g + 0) ((((zB S b 0 + zB S b 1) - zG S g 0)))) 35 (150 + 5 * g + 3) (((zG S g 3 + ztk S b)))) (by rw [show zG S3 g 4 = zG S g 4 from (by rw [hS3, hS2]; unfold zG; rw [zup_ne _ _ (by omega), zup_ne _ _ (by omega)]; exact eG 4 (by omega) (by omega))]; rfl) ?_
              refine az_to 2 (pc2 := 200) (lv2 := [some (az_r 34), some (az_i (((g : Nat) : Int))), some (az_i (((b : Nat) : Int))), some (az_i (zG S g 0)), some (az_i ((zdue S b - zG S g 1))), some (az_i (ztk S b))]) (st2 := [az_i ((zG S g 4 + 1)), az_i (4), az_i (((g : Nat) : Int)), az_r 34]) (s2 := am_up (am_up t1 35 (150 + 5 * g + 0) ((((zB S b 0 + zB S b 1) - zG S g 0)))) 35 (150 + 5 * g + 3) (((zG S g 3 + ztk S b)))) rfl ?_
              refine az_clv (v := none) (t := am_up (am_up (am_up t1 35 (150 + 5 * g + 0) ((((zB S b 0 + zB S b 1) - zG S g 0)))) 35 (150 + 5 * g + 3) (((zG S g 3 + ztk S b)))) 35 (150 + 5 * g + 4) (((zG S g 4 + 1)))) (m2 := am_m_X10_setsGoat) (as := [az_r 34, az_i (((g : Nat) : Int)), az_i (4), az_i ((zG S g 4 + 1))]) (rest := []) 203 rfl rfl ⟨rfl, rfl⟩ (by omega) (zs_X10_setsGoat (s := am_up (am_up t1 35 (150 + 5 * g + 0) ((((zB S b 0 + zB S b 1) - zG S g 0)))) 35 (150 + 5 * g + 3) (((zG S g 3 + ztk S b)))) (g := g) (k := 4) (v := ((zG S g 4 + 1))) (by omega) (by omega) (by omega)) ?_
              refine az_to 0 (pc2 := 203) (lv2 := [some (az_r 34), some (az_i (((g : Nat) : Int))), some (az_i (((b : Nat) : Int))), some (az_i (zG S g 0)), some (az_i ((zdue S b - zG S g 1))), some (az_i (ztk S b))]) (st2 := []) (s2 := am_up (am_up (am_up t1 35 (150 + 5 * g + 0) ((((zB S b 0 + zB S b 1) - zG S g 0)))) 35 (150 + 5 * g + 3) (((zG S g 3 + ztk S b)))) 35 (150 + 5 * g + 4) (((zG S g 4 + 1)))) rfl ?_
              obtain ⟨S4, hS4⟩ : ∃ X, X = zup S3 (150 + 5 * g + 4) (((zG S g 4 + 1))) := ⟨_, rfl⟩
              have hSS4 : (am_up (am_up (am_up t1 35 (150 + 5 * g + 0) ((((zB S b 0 + zB S b 1) - zG S g 0)))) 35 (150 + 5 * g + 3) (((zG S g 3 + ztk S b)))) 35 (150 + 5 * g + 4) (((zG S g 4 + 1)))) 35 = S4 := by rw [hS4, ← hSS3]; rfl
              refine az_to 6 (pc2 := 211) (lv2 := [some (az_r 34), some (az_i (((g : Nat) : Int))), some (az_i (((b : Nat) : Int))), some (az_i (zG S g 0)), some (az_i ((zdue S b - zG S g 1))), some (az_i (ztk S b))]) (st2 := [az_i (6), az_i (((b : Nat) : Int)), az_r 34, az_i (6), az_i (((b : Nat) : Int)), az_r 34]) (s2 := am_up (am_up (am_up t1 35 (150 + 5 * g + 0) ((((zB S b 0 + zB S b 1) - zG S g 0)))) 35 (150 + 5 * g + 3) (((zG S g 3 + ztk S b)))) 35 (150 + 5 * g + 4) (((zG S g 4 + 1)))) rfl ?_
              refine az_clv (v := some (az_i (zB S4 b 6))) (t := am_up (am_up (am_up t1 35 (150 + 5 * g + 0) ((((zB S b 0 + zB S b 1) - zG S g 0)))) 35 (150 + 5 * g + 3) (((zG S g 3 + ztk S b)))) 35 (150 + 5 * g + 4) (((zG S g 4 + 1)))) (m2 := am_m_X10_of) (as := [az_r 34, az_i (((b : Nat) : Int)), az_i (6)]) (rest := [az_i (6), az_i (((b : Nat) : Int)), az_r 34]) 214 rfl rfl ⟨rfl, rfl⟩ (by omega) (zs_X10_of (s := am_up (am_up (am_up t1 35 (150 + 5 * g + 0) ((((zB S b 0 + zB S b 1) - zG S g 0)))) 35 (150 + 5 * g + 3) (((zG S g 3 + ztk S b)))) 35 (150 + 5 * g + 4) (((zG S g 4 + 1)))) (b := b) (k := 6) (by omega) hSS4 (by omega) (by omega)) ?_
              refine az_to 0 (pc2 := 214) (lv2 := [some (az_r 34), some (az_i (((g : Nat) : Int))), some (az_i (((b : Nat) : Int))), some (az_i (zG S g 0)), some (az_i ((zdue S b - zG S g 1))), some (az_i (ztk S b))]) (st2 := [az_i (zB S4 b 6), az_i (6), az_i (((b : Nat) : Int)), az_r 34]) (s2 := am_up (am_up (am_up t1 35 (150 + 5 * g + 0) ((((zB S b 0 + zB S b 1) - zG S g 0)))) 35 (150 + 5 * g + 3) (((zG S g 3 + ztk S b)))) 35 (150 + 5 * g + 4) (((zG S g 4 + 1)))) rfl ?_
              refine az_to 0 (pc2 := 214) (lv2 := [some (az_r 34), some (az_i (((g : Nat) : Int))), some (az_i (((b : Nat) : Int))), some (az_i (zG S g 0)), some (az_i ((zdue S b - zG S g 1))), some (az_i (ztk S b))]) (st2 := [az_i (zB S b 6), az_i (6), az_i (((b : Nat) : Int)), az_r 34]) (s2 := am_up (am_up (am_up t1 35 (150 + 5 * g + 0) ((((zB S b 0 + zB S b 1) - zG S g 0)))) 35 (150 + 5 * g + 3) (((zG S g 3 + ztk S b)))) 35 (150 + 5 * g + 4) (((zG S g 4 + 1)))) (by rw [show zB S4 b 6 = zB S b 6 from (by rw [hS4, hS3, hS2]; unfold zB; rw [zup_ne _ _ (by omega), zup_ne _ _ (by omega), zup_ne _ _ (by omega)]; exact eB 6 (by omega))]; rfl) ?_
              refine az_to 2 (pc2 := 216) (lv2 := [some (az_r 34), some (az_i (((g : Nat) : Int))), some (az_i (((b : Nat) : Int))), some (az_i (zG S g 0)), some (az_i ((zdue S b - zG S g 1))), some (az_i (ztk S b))]) (st2 := [az_i ((zB S b 6 + 1)), az_i (6), az_i (((b : Nat) : Int)), az_r 34]) (s2 := am_up (am_up (am_up t1 35 (150 + 5 * g + 0) ((((zB S b 0 + zB S b 1) - zG S g 0)))) 35 (150 + 5 * g + 3) (((zG S g 3 + ztk S b)))) 35 (150 + 5 * g + 4) (((zG S g 4 + 1)))) rfl ?_
              refine az_clv (v := none) (t := am_up (am_up (am_up (am_up t1 35 (150 + 5 * g + 0) ((((zB S b 0 + zB S b 1) - zG S g 0)))) 35 (150 + 5 * g + 3) (((zG S g 3 + ztk S b)))) 35 (150 + 5 * g + 4) (((zG S g 4 + 1)))) 35 (6 + 12 * b + 6) (((zB S b 6 + 1)))) (m2 := am_m_X10_sets) (as := [az_r 34, az_i (((b : Nat) : Int)), az_i (6), az_i ((zB S b 6 + 1))]) (rest := []) 219 rfl rfl ⟨rfl, rfl⟩ (by omega) (zs_X10_sets (s := am_up (am_up (am_up t1 35 (150 + 5 * g + 0) ((((zB S b 0 + zB S b 1) - zG S g 0)))) 35 (150 + 5 * g + 3) (((zG S g 3 + ztk S b)))) 35 (150 + 5 * g + 4) (((zG S g 4 + 1)))) (b := b) (k := 6) (v := ((zB S b 6 + 1))) (by omega) (by omega) (by omega)) ?_
              refine az_to 0 (pc2 := 219) (lv2 := [some (az_r 34), some (az_i (((g : Nat) : Int))), some (az_i (((b : Nat) : Int))), some (az_i (zG S g 0)), some (az_i ((zdue S b - zG S g 1))), some (az_i (ztk S b))]) (st2 := []) (s2 := am_up (am_up (am_up (am_up t1 35 (150 + 5 * g + 0) ((((zB S b 0 + zB S b 1) - zG S g 0)))) 35 (150 + 5 * g + 3) (((zG S g 3 + ztk S b)))) 35 (150 + 5 * g + 4) (((zG S g 4 + 1)))) 35 (6 + 12 * b + 6) (((zB S b 6 + 1)))) rfl ?_
              obtain ⟨S5, hS5⟩ : ∃ X, X = zup S4 (6 + 12 * b + 6) (((zB S b 6 + 1))) := ⟨_, rfl⟩
              have hSS5 : (am_up (am_up (am_up (am_up t1 35 (150 + 5 * g + 0) ((((zB S b 0 + zB S b 1) - zG S g 0)))) 35 (150 + 5 * g + 3) (((zG S g 3 + ztk S b)))) 35 (150 + 5 * g + 4) (((zG S g 4 + 1)))) 35 (6 + 12 * b + 6) (((zB S b 6 + 1)))) 35 = S5 := by rw [hS5, ← hSS4]; rfl
              refine az_to 4 (pc2 := 225) (lv2 := [some (az_r 34), some (az_i (((g : Nat) : Int))), some (az_i (((b : Nat) : Int))), some (az_i (zG S g 0)), some (az_i ((zdue S b - zG S g 1))), some (az_i (ztk S b))]) (st2 := [az_i (4), az_r 35, az_i (4), az_r 35]) (s2 := am_up (am_up (am_up (am_up t1 35 (150 + 5 * g + 0) ((((zB S b 0 + zB S b 1) - zG S g 0)))) 35 (150 + 5 * g + 3) (((zG S g 3 + ztk S b)))) 35 (150 + 5 * g + 4) (((zG S g 4 + 1)))) 35 (6 + 12 * b + 6) (((zB S b 6 + 1)))) rfl ?_
              refine az_ld_i 226 rfl rfl (by constructor <;> omega) ⟨by decide, rfl⟩ ?_
              refine az_to 0 (pc2 := 226) (lv2 := [some (az_r 34), some (az_i (((g : Nat) : Int))), some (az_i (((b : Nat) : Int))), some (az_i (zG S g 0)), some (az_i ((zdue S b - zG S g 1))), some (az_i (ztk S b))]) (st2 := [az_i ((am_up (am_up (am_up (am_up t1 35 (150 + 5 * g + 0) ((((zB S b 0 + zB S b 1) - zG S g 0)))) 35 (150 + 5 * g + 3) (((zG S g 3 + ztk S b)))) 35 (150 + 5 * g + 4) (((zG S g 4 + 1)))) 35 (6 + 12 * b + 6) (((zB S b 6 + 1)))) 35 4), az_i (4), az_r 35]) (s2 := am_up (am_up (am_up (am_up t1 35 (150 + 5 * g + 0) ((((zB S b 0 + zB S b 1) - zG S g 0)))) 35 (150 + 5 * g + 3) (((zG S g 3 + ztk S b)))) 35 (150 + 5 * g + 4) (((zG S g 4 + 1)))) 35 (6 + 12 * b + 6) (((zB S b 6 + 1)))) rfl ?_
              refine az_to 0 (pc2 := 226) (lv2 := [some (az_r 34), some (az_i (((g : Nat) : Int))), some (az_i (((b : Nat) : Int))), some (az_i (zG S g 0)), some (az_i ((zdue S b - zG S g 1))), some (az_i (ztk S b))]) (st2 := [az_i (S 4), az_i (4), az_r 35]) (s2 := am_up (am_up (am_up (am_up t1 35 (150 + 5 * g + 0) ((((zB S b 0 + zB S b 1) - zG S g 0)))) 35 (150 + 5 * g + 3) (((zG S g 3 + ztk S b)))) 35 (150 + 5 * g + 4) (((zG S g 4 + 1)))) 35 (6 + 12 * b + 6) (((zB S b 6 + 1)))) (by rw [show (am_up (am_up (am_up (am_up t1 35 (150 + 5 * g + 0) ((((zB S b 0 + zB S b 1) - zG S g 0)))) 35 (150 + 5 * g + 3) (((zG S g 3 + ztk S b)))) 35 (150 + 5 * g + 4) (((zG S g 4 + 1)))) 35 (6 + 12 * b + 6) (((zB S b 6 + 1)))) 35 4 = S 4 from (by rw [hSS5, hS5, hS4, hS3, hS2, zup_ne _ _ (by omega), zup_ne _ _ (by omega), zup_ne _ _ (by omega), zup_ne _ _ (by omega)]; exact e4)]; rfl) ?_
              refine az_to 2 (pc2 := 228) (lv2 := [some (az_r 34), some (az_i (((g : Nat) : Int))), some (az_i (((b : Nat) : Int))), some (az_i (zG S g 0)), some (az_i ((zdue S b - zG S g 1))), some (az_i (ztk S b))]) (st2 := [az_i ((S 4 + 1)), az_i (4), az_r 35]) (s2 := am_up (am_up (am_up (am_up t1 35 (150 + 5 * g + 0) ((((zB S b 0 + zB S b 1) - zG S g 0)))) 35 (150 + 5 * g + 3) (((zG S g 3 + ztk S b)))) 35 (150 + 5 * g + 4) (((zG S g 4 + 1)))) 35 (6 + 12 * b + 6) (((zB S b 6 + 1)))) rfl ?_
              refine az_st_i 229 rfl rfl (by constructor <;> omega) ⟨by decide, rfl⟩ ?_
              refine az_to 1 (pc2 := 231) (lv2 := [some (az_r 34), some (az_i (((g : Nat) : Int))), some (az_i (((b : Nat) : Int))), some (az_i (zG S g 0)), some (az_i ((zdue S b - zG S g 1))), some (az_i (ztk S b))]) (st2 := [az_i (ztk S b)]) (s2 := am_up (am_up (am_up (am_up (am_up t1 35 (150 + 5 * g + 0) ((((zB S b 0 + zB S b 1) - zG S g 0)))) 35 (150 + 5 * g + 3) (((zG S g 3 + ztk S b)))) 35 (150 + 5 * g + 4) (((zG S g 4 + 1)))) 35 (6 + 12 * b + 6) (((zB S b 6 + 1)))) 35 4 ((S 4 + 1))) rfl ?_
              refine az_retI rfl rfl ?_
              have e : zo_cross S ((g : Nat) : Int) ((b : Nat) : Int) = (0, ztk S b, 0, zcS S g b) := by
                simp only [zo_cross, Int.toNat_natCast]
                rw [if_neg (by omega), if_neg (by omega), if_neg (by omega), if_neg (by omega)]
              rw [e]
              exact ⟨rfl, (by unfold zcS; rw [← hS1, ← hS2, ← hS3, ← hS4, ← hS5, ← hSS5]; rfl), (by show t1 34 6 = _; rw [hF1 34 (by decide)]; rfl), (fun h => absurd (show (0 : Nat) = 3 from h) (by decide)), (fun _ => ⟨(by show t1 34 7 = _; rw [hF1 34 (by decide)]; rfl), (by show t1 34 8 = _; rw [hF1 34 (by decide)]; rfl), (by show t1 34 9 = _; rw [hF1 34 (by decide)]; rfl)⟩), (fun j h6 h7 h8 h9 => by have q9 := congrFun (hF1 34 (by decide)) j; simp [am_up, h6, h7, h8, h9] at q9 ⊢; exact q9), (fun i h1 h2 => by funext j; have q8 := congrFun (hF1 i h2) j; simp [am_up, h1, h2] at q8 ⊢; exact q8)⟩
            · have h7 : ¬ ((zdue S b - zG S g 1) ≤ 0) := h7
              refine az_to 4 (pc2 := 127) (lv2 := [some (az_r 34), some (az_i (((g : Nat) : Int))), some (az_i (((b : Nat) : Int))), some (az_i (zG S g 0)), some (az_i ((zdue S b - zG S g 1))), none]) (st2 := [az_i ((zdue S b - zG S g 1)), az_i (8), az_i (1), az_r 34]) (s2 := am_up s 34 6 (0)) rfl ?_
              refine az_clv (v := some (az_i (1))) (t := am_up (am_up (am_up (am_up (am_up s 34 6 (0)) 34 7 (8)) 34 8 (((zdue S b - zG S g 1)))) 34 9 (0)) 34 6 (9)) (m2 := am_m_X10_isRefused) (as := [az_r 34, az_i (1), az_i (8), az_i ((zdue S b - zG S g 1))]) (rest := []) 130 rfl rfl ⟨rfl, rfl⟩ (by omega) (zs_X10_isRefused_t (s := am_up s 34 6 (0)) (v := 8) (w := ((zdue S b - zG S g 1))) (by omega) ) ?_
              refine az_to 0 (pc2 := 130) (lv2 := [some (az_r 34), some (az_i (((g : Nat) : Int))), some (az_i (((b : Nat) : Int))), some (az_i (zG S g 0)), some (az_i ((zdue S b - zG S g 1))), none]) (st2 := [az_i (1)]) (s2 := am_up (am_up (am_up (am_up (am_up s 34 6 (0)) 34 7 (8)) 34 8 (((zdue S b - zG S g 1)))) 34 9 (0)) 34 6 (9)) rfl ?_
              refine az_ifc 135 133 rfl (by decide) ⟨by decide, by decide⟩ (fun h => absurd h (by unfold az_cnd; decide)) (fun _ => ?_)
              refine az_to 1 (pc2 := 134) (lv2 := [some (az_r 34), some (az_i (((g : Nat) : Int))), some (az_i (((b : Nat) : Int))), some (az_i (zG S g 0)), some (az_i ((zdue S b - zG S g 1))), none]) (st2 := [az_i (0)]) (s2 := am_up (am_up (am_up (am_up (am_up s 34 6 (0)) 34 7 (8)) 34 8 (((zdue S b - zG S g 1)))) 34 9 (0)) 34 6 (9)) rfl ?_
              refine az_retI rfl rfl ?_
              have e : zo_cross S ((g : Nat) : Int) ((b : Nat) : Int) = (3, 8, ((zdue S b - zG S g 1)), S) := by
                simp only [zo_cross, Int.toNat_natCast]
                first | (rw [if_pos (by omega)]) | (rw [if_neg (by omega), if_pos (by omega)]) | (rw [if_neg (by omega), if_neg (by omega), if_pos (by omega)]) | (rw [if_neg (by omega), if_neg (by omega), if_neg (by omega), if_pos (by omega)]) | (rw [if_neg (by omega), if_neg (by omega), if_neg (by omega), if_neg (by omega), if_pos (by omega)])
              rw [e]
              exact ⟨rfl, hS, rfl, (fun _ => ⟨rfl, rfl, rfl⟩), (fun h => absurd rfl h), (fun j h6 h7 h8 h9 => by simp [am_up, h6, h7, h8, h9]), (fun i h1 h2 => by funext j; simp [am_up, h1, h2])⟩
          · have h6 : ¬ (zB S b 1 = zG S g 0) := h6
            refine az_to 4 (pc2 := 106) (lv2 := [some (az_r 34), some (az_i (((g : Nat) : Int))), some (az_i (((b : Nat) : Int))), some (az_i (zG S g 0)), some (az_i ((zdue S b - zG S g 1))), none]) (st2 := [az_i (zG S g 0), az_i (7), az_i (1), az_r 34]) (s2 := am_up s 34 6 (0)) rfl ?_
            refine az_clv (v := some (az_i (1))) (t := am_up (am_up (am_up (am_up (am_up s 34 6 (0)) 34 7 (7)) 34 8 ((zG S g 0))) 34 9 (0)) 34 6 (9)) (m2 := am_m_X10_isRefused) (as := [az_r 34, az_i (1), az_i (7), az_i (zG S g 0)]) (rest := []) 109 rfl rfl ⟨rfl, rfl⟩ (by omega) (zs_X10_isRefused_t (s := am_up s 34 6 (0)) (v := 7) (w := (zG S g 0)) (by omega) ) ?_
            refine az_to 0 (pc2 := 109) (lv2 := [some (az_r 34), some (az_i (((g : Nat) : Int))), some (az_i (((b : Nat) : Int))), some (az_i (zG S g 0)), some (az_i ((zdue S b - zG S g 1))), none]) (st2 := [az_i (1)]) (s2 := am_up (am_up (am_up (am_up (am_up s 34 6 (0)) 34 7 (7)) 34 8 ((zG S g 0))) 34 9 (0)) 34 6 (9)) rfl ?_
            refine az_ifc 133 112 rfl (by decide) ⟨by decide, by decide⟩ (fun _ => ?_) (fun h => absurd (show az_cnd _ _ _ by unfold az_cnd; decide) h)
            refine az_to 1 (pc2 := 134) (lv2 := [some (az_r 34), some (az_i (((g : Nat) : Int))), some (az_i (((b : Nat) : Int))), some (az_i (zG S g 0)), some (az_i ((zdue S b - zG S g 1))), none]) (st2 := [az_i (0)]) (s2 := am_up (am_up (am_up (am_up (am_up s 34 6 (0)) 34 7 (7)) 34 8 ((zG S g 0))) 34 9 (0)) 34 6 (9)) rfl ?_
            refine az_retI rfl rfl ?_
            have e : zo_cross S ((g : Nat) : Int) ((b : Nat) : Int) = (3, 7, (zG S g 0), S) := by
              simp only [zo_cross, Int.toNat_natCast]
              first | (rw [if_pos (by omega)]) | (rw [if_neg (by omega), if_pos (by omega)]) | (rw [if_neg (by omega), if_neg (by omega), if_pos (by omega)]) | (rw [if_neg (by omega), if_neg (by omega), if_neg (by omega), if_pos (by omega)]) | (rw [if_neg (by omega), if_neg (by omega), if_neg (by omega), if_neg (by omega), if_pos (by omega)])
            rw [e]
            exact ⟨rfl, hS, rfl, (fun _ => ⟨rfl, rfl, rfl⟩), (fun h => absurd rfl h), (fun j h6 h7 h8 h9 => by simp [am_up, h6, h7, h8, h9]), (fun i h1 h2 => by funext j; simp [am_up, h1, h2])⟩
      · have h3 : zG S g 2 = 1 := Decidable.not_not.mp h3
        refine az_to 4 (pc2 := 71) (lv2 := [some (az_r 34), some (az_i (((g : Nat) : Int))), some (az_i (((b : Nat) : Int))), some (az_i (zG S g 0)), some (az_i ((zdue S b - zG S g 1))), none]) (st2 := [az_i (((g : Nat) : Int)), az_i (6), az_i (1), az_r 34]) (s2 := am_up s 34 6 (0)) rfl ?_
        refine az_clv (v := some (az_i (1))) (t := am_up (am_up (am_up (am_up (am_up s 34 6 (0)) 34 7 (6)) 34 8 ((((g : Nat) : Int)))) 34 9 (0)) 34 6 (9)) (m2 := am_m_X10_isRefused) (as := [az_r 34, az_i (1), az_i (6), az_i (((g : Nat) : Int))]) (rest := []) 74 rfl rfl ⟨rfl, rfl⟩ (by omega) (zs_X10_isRefused_t (s := am_up s 34 6 (0)) (v := 6) (w := (((g : Nat) : Int))) (by omega) ) ?_
        refine az_to 0 (pc2 := 74) (lv2 := [some (az_r 34), some (az_i (((g : Nat) : Int))), some (az_i (((b : Nat) : Int))), some (az_i (zG S g 0)), some (az_i ((zdue S b - zG S g 1))), none]) (st2 := [az_i (1)]) (s2 := am_up (am_up (am_up (am_up (am_up s 34 6 (0)) 34 7 (6)) 34 8 ((((g : Nat) : Int)))) 34 9 (0)) 34 6 (9)) rfl ?_
        refine az_ifc 133 77 rfl (by decide) ⟨by decide, by decide⟩ (fun _ => ?_) (fun h => absurd (show az_cnd _ _ _ by unfold az_cnd; decide) h)
        refine az_to 1 (pc2 := 134) (lv2 := [some (az_r 34), some (az_i (((g : Nat) : Int))), some (az_i (((b : Nat) : Int))), some (az_i (zG S g 0)), some (az_i ((zdue S b - zG S g 1))), none]) (st2 := [az_i (0)]) (s2 := am_up (am_up (am_up (am_up (am_up s 34 6 (0)) 34 7 (6)) 34 8 ((((g : Nat) : Int)))) 34 9 (0)) 34 6 (9)) rfl ?_
        refine az_retI rfl rfl ?_
        have e : zo_cross S ((g : Nat) : Int) ((b : Nat) : Int) = (3, 6, (((g : Nat) : Int)), S) := by
          simp only [zo_cross, Int.toNat_natCast]
          first | (rw [if_pos (by omega)]) | (rw [if_neg (by omega), if_pos (by omega)]) | (rw [if_neg (by omega), if_neg (by omega), if_pos (by omega)]) | (rw [if_neg (by omega), if_neg (by omega), if_neg (by omega), if_pos (by omega)]) | (rw [if_neg (by omega), if_neg (by omega), if_neg (by omega), if_neg (by omega), if_pos (by omega)])
        rw [e]
        exact ⟨rfl, hS, rfl, (fun _ => ⟨rfl, rfl, rfl⟩), (fun h => absurd rfl h), (fun j h6 h7 h8 h9 => by simp [am_up, h6, h7, h8, h9]), (fun i h1 h2 => by funext j; simp [am_up, h1, h2])⟩
    · have h2 : ¬ (0 ≤ zb ∧ zb < ((zn S 0 : Nat) : Int)) := h2
      refine az_to 3 (pc2 := 23) (lv2 := [some (az_r 34), some (az_i (((g : Nat) : Int))), some (az_i (zb)), none, none, none]) (st2 := [az_i (1), az_i (1), az_r 34]) (s2 := s) rfl ?_
      refine az_clv (v := some (az_i (1))) (t := am_up s 34 6 (1)) (m2 := am_m_X10_isThrown) (as := [az_r 34, az_i (1), az_i (1)]) (rest := []) 26 rfl rfl ⟨rfl, rfl⟩ (by omega) (zs_X10_isThrown_t (s := s) (v := 1) (by omega) ) ?_
      refine az_to 0 (pc2 := 26) (lv2 := [some (az_r 34), some (az_i (((g : Nat) : Int))), some (az_i (zb)), none, none, none]) (st2 := [az_i (1)]) (s2 := am_up s 34 6 (1)) rfl ?_
      refine az_ifc 31 29 rfl (by decide) ⟨by decide, by decide⟩ (fun h => absurd h (by unfold az_cnd; decide)) (fun _ => ?_)
      refine az_to 1 (pc2 := 30) (lv2 := [some (az_r 34), some (az_i (((g : Nat) : Int))), some (az_i (zb)), none, none, none]) (st2 := [az_i (0)]) (s2 := am_up s 34 6 (1)) rfl ?_
      refine az_retI rfl rfl ?_
      have e : zo_cross S ((g : Nat) : Int) zb = (1, 0, 0, S) := by
        simp only [zo_cross, Int.toNat_natCast]
        first | (rw [if_pos (by omega)]) | (rw [if_neg (by omega), if_pos (by omega)]) | (rw [if_neg (by omega), if_neg (by omega), if_pos (by omega)]) | (rw [if_neg (by omega), if_neg (by omega), if_neg (by omega), if_pos (by omega)]) | (rw [if_neg (by omega), if_neg (by omega), if_neg (by omega), if_neg (by omega), if_pos (by omega)])
      rw [e]
      exact ⟨rfl, hS, rfl, (fun h => absurd (show (1 : Nat) = 3 from h) (by decide)), (fun _ => ⟨rfl, rfl, rfl⟩), (fun j h6 h7 h8 h9 => by simp [am_up, h6, h7, h8, h9]), (fun i h1 h2 => by funext j; simp [am_up, h1, h2])⟩
set_option maxRecDepth 100000 in
set_option maxHeartbeats 800000 in
theorem zs_X10_settles_L1_L84 {d : Nat} {s : az_S} (hd : 3 ≤ d) {S : zR} {h : Nat} (hS : s 35 = S) (hI : zInv S h) (hh : h ≤ 10000) {b : Nat} (hb : b < zn S 0) (hd : 0 ≤ zB S b 5) : ∀ (m : Nat) (k : Nat) (u : az_S), m = 5 - k → (k ≤ 5) → (u 35 = (zsl (zsT S b 1) b 1 k)) → (u 34 6 = 0) → (∀ j, j ≠ 6 → u 34 j = s 34 j) → (∀ i, i ≠ 34 → i ≠ 35 → u i = s i) → az_R d am_m_X10_settles 84 [some (az_r 34), some (az_i (((b : Nat) : Int))), some (az_i (1)), some (az_i (zs5 S b)), some (az_i (((k : Nat) : Int)))] [] (u) (zMq s (zo_settle S ((b : Nat) : Int) 1) 2) := by
  intro m
  induction m using Nat.strongRecOn with
  | _ m ih =>
    intro k u hm g0 g1 g2 g3 g4
    have hz := zI_h hI hh
    have hs0 : s 35 0 = ((zn S 0 : Nat) : Int) := by rw [hS, hz.2.1.1]
    have hs1 : s 35 1 = ((zn S 1 : Nat) : Int) := by rw [hS, hz.2.1.2.1]
    have hs2 : s 35 2 = ((zn S 2 : Nat) : Int) := by rw [hS, hz.2.1.2.2]
    have hs3 : s 35 3 = S 3 := by rw [hS]
    have hs5 : s 35 5 = S 5 := by rw [hS]
    have hzb := zI_b hI hh hb
    refine az_to 2 (pc2 := 87) (lv2 := [some (az_r 34), some (az_i (((b : Nat) : Int))), some (az_i (1)), some (az_i (zs5 S b)), some (az_i (((k : Nat) : Int)))]) (st2 := [az_i (5), az_i (((k : Nat) : Int))]) (s2 := u) rfl ?_
    refine az_if2 141 90 rfl (by decide) (by first | assumption | exact ⟨by omega, by omega⟩) ⟨by decide, by decide⟩ (fun h1 => ?_) (fun h1 => ?_)
    · have h1 : 5 ≤ ((k : Nat) : Int) := h1
      refine az_to 4 (pc2 := 145) (lv2 := [some (az_r 34), some (az_i (((b : Nat) : Int))), some (az_i (1)), some (az_i (zs5 S b)), some (az_i (((k : Nat) : Int)))]) (st2 := [az_i (-1), az_i (5), az_i (((b : Nat) : Int)), az_r 34]) (s2 := u) rfl ?_
      refine az_clv (v := none) (t := am_up u 35 (6 + 12 * b + 5) ((-1))) (m2 := am_m_X10_sets) (as := [az_r 34, az_i (((b : Nat) : Int)), az_i (5), az_i (-1)]) (rest := []) 148 rfl rfl ⟨rfl, rfl⟩ (by omega) (zs_X10_sets (s := u) (b := b) (k := 5) (v := (-1)) (by omega) (by omega) (by omega)) ?_
      refine az_to 0 (pc2 := 148) (lv2 := [some (az_r 34), some (az_i (((b : Nat) : Int))), some (az_i (1)), some (az_i (zs5 S b)), some (az_i (((k : Nat) : Int)))]) (st2 := []) (s2 := am_up u 35 (6 + 12 * b + 5) ((-1))) rfl ?_
      refine az_to 1 (pc2 := 149) (lv2 := [some (az_r 34), some (az_i (((b : Nat) : Int))), some (az_i (1)), some (az_i (zs5 S b)), some (az_i (((k : Nat) : Int)))]) (st2 := [az_i (zs5 S b)]) (s2 := am_up u 35 (6 + 12 * b + 5) ((-1))) rfl ?_
      refine az_retI rfl rfl ?_
      have e : zo_settle S b 1 = (0, zs5 S b, 0, zsS S b 1) := by
        simp only [zo_settle, Int.toNat_natCast]
        rw [if_neg (by omega), if_neg (by omega)]
      rw [e]
      exact ⟨rfl, (by have e9 : k = 5 := (by omega); show zup (u 35) (6 + 12 * b + 5) (-1) = _; rw [g1, e9]; rfl), (by show _ = (0 : Int); rw [← g2]; simp [am_up]), (fun h => absurd (show (0 : Nat) = 3 from h) (by decide)), (fun _ => ⟨by rw [← g3 7 (by decide)]; simp [am_up], by rw [← g3 8 (by decide)]; simp [am_up], by rw [← g3 9 (by decide)]; simp [am_up]⟩), (fun j h6 h7 h8 h9 => by rw [← g3 j h6]; simp [am_up]), (fun i h1 h2 => by rw [← g4 i h1 h2]; funext j; simp [am_up, h2])⟩
    · have h1 : ¬ (5 ≤ ((k : Nat) : Int)) := h1
      refine az_to 6 (pc2 := 98) (lv2 := [some (az_r 34), some (az_i (((b : Nat) : Int))), some (az_i (1)), some (az_i (zs5 S b)), some (az_i (((k : Nat) : Int)))]) (st2 := [az_i (1), az_i (((k : Nat) : Int)), az_r 34, az_i (1), az_i (((k : Nat) : Int)), az_r 34]) (s2 := u) rfl ?_
      refine az_clv (v := some (az_i (zG (zsl (zsT S b 1) b 1 k) k 1))) (t := u) (m2 := am_m_X10_ofGoat) (as := [az_r 34, az_i (((k : Nat) : Int)), az_i (1)]) (rest := [az_i (1), az_i (((k : Nat) : Int)), az_r 34]) 101 rfl rfl ⟨rfl, rfl⟩ (by omega) (zs_X10_ofGoat (s := u) (g := k) (k := 1) (by omega) g1 (by omega) (by omega)) ?_
      refine az_to 0 (pc2 := 101) (lv2 := [some (az_r 34), some (az_i (((b : Nat) : Int))), some (az_i (1)), some (az_i (zs5 S b)), some (az_i (((k : Nat) : Int)))]) (st2 := [az_i (zG (zsl (zsT S b 1) b 1 k) k 1), az_i (1), az_i (((k : Nat) : Int)), az_r 34]) (s2 := u) rfl ?_
      refine az_to 0 (pc2 := 101) (lv2 := [some (az_r 34), some (az_i (((b : Nat) : Int))), some (az_i (1)), some (az_i (zs5 S b)), some (az_i (((k : Nat) : Int)))]) (st2 := [az_i (zG (zsT S b 1) k 1), az_i (1), az_i (((k : Nat) : Int)), az_r 34]) (s2 := u) (by rw [show zG (zsl (zsT S b 1) b 1 k) k 1 = zG (zsT S b 1) k 1 from zsl_o _ _ _ _ _ (fun g hg => by omega)]; rfl) ?_
      refine az_to 2 (pc2 := 103) (lv2 := [some (az_r 34), some (az_i (((b : Nat) : Int))), some (az_i (1)), some (az_i (zs5 S b)), some (az_i (((k : Nat) : Int)))]) (st2 := [az_i (1), az_i (1), az_i (zG (zsT S b 1) k 1), az_i (1), az_i (((k : Nat) : Int)), az_r 34]) (s2 := u) rfl ?_
      refine az_if2 110 106 rfl (by decide) ⟨by decide, by decide⟩ ⟨by decide, by decide⟩ (fun h => absurd h (by unfold az_cnd; decide)) (fun _ => ?_)
      refine az_to 3 (pc2 := 121) (lv2 := [some (az_r 34), some (az_i (((b : Nat) : Int))), some (az_i (1)), some (az_i (zs5 S b)), some (az_i (((k : Nat) : Int)))]) (st2 := [az_i ((zG (zsT S b 1) k 1 + 0)), az_i (1), az_i (((k : Nat) : Int)), az_r 34]) (s2 := u) rfl ?_
      refine az_clv (v := none) (t := am_up u 35 (150 + 5 * k + 1) (((zG (zsT S b 1) k 1 + 0)))) (m2 := am_m_X10_setsGoat) (as := [az_r 34, az_i (((k : Nat) : Int)), az_i (1), az_i ((zG (zsT S b 1) k 1 + 0))]) (rest := []) 124 rfl rfl ⟨rfl, rfl⟩ (by omega) (zs_X10_setsGoat (s := u) (g := k) (k := 1) (v := ((zG (zsT S b 1) k 1 + 0))) (by omega) (by omega) (by omega)) ?_
      refine az_to 0 (pc2 := 124) (lv2 := [some (az_r 34), some (az_i (((b : Nat) : Int))), some (az_i (1)), some (az_i (zs5 S b)), some (az_i (((k : Nat) : Int)))]) (st2 := []) (s2 := am_up u 35 (150 + 5 * k + 1) (((zG (zsT S b 1) k 1 + 0)))) rfl ?_
      refine az_to 6 (pc2 := 132) (lv2 := [some (az_r 34), some (az_i (((b : Nat) : Int))), some (az_i (1)), some (az_i (zs5 S b)), some (az_i (((k : Nat) : Int)))]) (st2 := [az_i (0), az_i ((7 + ((k : Nat) : Int))), az_i (((b : Nat) : Int)), az_r 34]) (s2 := am_up u 35 (150 + 5 * k + 1) (((zG (zsT S b 1) k 1 + 0)))) rfl ?_
      refine az_clv (v := none) (t := am_up (am_up u 35 (150 + 5 * k + 1) (((zG (zsT S b 1) k 1 + 0)))) 35 (6 + 12 * b + (7 + k)) (0)) (m2 := am_m_X10_sets) (as := [az_r 34, az_i (((b : Nat) : Int)), az_i ((7 + ((k : Nat) : Int))), az_i (0)]) (rest := []) 135 rfl rfl ⟨rfl, rfl⟩ (by omega) (zs_X10_sets (s := am_up u 35 (150 + 5 * k + 1) (((zG (zsT S b 1) k 1 + 0)))) (b := b) (k := (7 + k)) (v := 0) (by omega) (by omega) (by omega)) ?_
      refine az_to 0 (pc2 := 135) (lv2 := [some (az_r 34), some (az_i (((b : Nat) : Int))), some (az_i (1)), some (az_i (zs5 S b)), some (az_i (((k : Nat) : Int)))]) (st2 := []) (s2 := am_up (am_up u 35 (150 + 5 * k + 1) (((zG (zsT S b 1) k 1 + 0)))) 35 (6 + 12 * b + (7 + k)) (0)) rfl ?_
      refine az_to 2 (pc2 := 84) (lv2 := [some (az_r 34), some (az_i (((b : Nat) : Int))), some (az_i (1)), some (az_i (zs5 S b)), some (az_i ((((k : Nat) : Int) + 1)))]) (st2 := []) (s2 := am_up (am_up u 35 (150 + 5 * k + 1) (((zG (zsT S b 1) k 1 + 0)))) 35 (6 + 12 * b + (7 + k)) (0)) rfl ?_
      exact ih _ (by omega) (k + 1) _ rfl (by omega) (by show _ = zup (zup (zsl (zsT S b 1) b 1 k) (150 + 5 * k + 1) (zG (zsT S b 1) k 1 + 0)) (6 + 12 * b + (7 + k)) 0; rw [← g1]; rfl) g2 g3 (fun i h1 h2 => by rw [← g4 i h1 h2]; funext j; simp [am_up, h2])
set_option maxRecDepth 100000 in
set_option maxHeartbeats 800000 in
theorem zs_X10_settles_1 {d : Nat} {s : az_S} (hd : 4 ≤ d) {S : zR} {h : Nat} (hS : s 35 = S) (hI : zInv S h) (hh : h ≤ 10000) {zb : Int} (h_zb : az_in zb) : az_R d am_m_X10_settles 0 (az_ini (am_mL am_m_X10_settles) [az_r 34, az_i (zb), az_i (1)]) [] (s) (zMq s (zo_settle S zb 1) 2) := by
  have hz := zI_h hI hh
  have hs0 : s 35 0 = ((zn S 0 : Nat) : Int) := by rw [hS, hz.2.1.1]
  have hs1 : s 35 1 = ((zn S 1 : Nat) : Int) := by rw [hS, hz.2.1.2.1]
  have hs2 : s 35 2 = ((zn S 2 : Nat) : Int) := by rw [hS, hz.2.1.2.2]
  have hs3 : s 35 3 = S 3 := by rw [hS]
  have hs5 : s 35 5 = S 5 := by rw [hS]
  refine az_to 0 (pc2 := 0) (lv2 := [some (az_r 34), some (az_i (zb)), some (az_i (1)), none, none]) (st2 := []) (s2 := s) rfl ?_
  refine az_to 3 (pc2 := 3) (lv2 := [some (az_r 34), some (az_i (zb)), some (az_i (1)), none, none]) (st2 := [az_i (zb), az_r 34, az_r 34]) (s2 := s) rfl ?_
  refine az_clv (v := some (az_i (az_b (0 ≤ zb ∧ zb < ((zn S 0 : Nat) : Int))))) (t := s) (m2 := am_m_X10_isBridge) (as := [az_r 34, az_i (zb)]) (rest := [az_r 34]) 6 rfl rfl ⟨rfl, rfl⟩ (by omega) (zs_X10_isBridge (s := s) (z := zb) (by omega) hS hI hh (by first | assumption | exact ⟨by omega, by omega⟩)) ?_
  refine az_to 0 (pc2 := 6) (lv2 := [some (az_r 34), some (az_i (zb)), some (az_i (1)), none, none]) (st2 := [az_i (az_b (0 ≤ zb ∧ zb < ((zn S 0 : Nat) : Int))), az_r 34]) (s2 := s) rfl ?_
  refine az_ifbn 13 9 rfl (by decide) (fun h1 => ?_) (fun h1 => ?_)
  · have h1 : 0 ≤ zb ∧ zb < ((zn S 0 : Nat) : Int) := h1
    obtain ⟨b, rfl⟩ : ∃ n0 : Nat, zb = n0 := ⟨zb.toNat, by omega⟩
    have hzb := zI_b hI hh (b := b) (by omega)
    have hzc2 := (hI.2.1 b (by omega)).2.2.2.2
    refine az_to 0 (pc2 := 13) (lv2 := [some (az_r 34), some (az_i (((b : Nat) : Int))), some (az_i (1)), none, none]) (st2 := [az_r 34]) (s2 := s) (rfl) ?_
    refine az_to 2 (pc2 := 15) (lv2 := [some (az_r 34), some (az_i (((b : Nat) : Int))), some (az_i (1)), none, none]) (st2 := [az_i (1), az_i (0), az_r 34]) (s2 := s) rfl ?_
    refine az_clv (v := some (az_i (0))) (t := am_up s 34 6 (0)) (m2 := am_m_X10_isThrown) (as := [az_r 34, az_i (0), az_i (1)]) (rest := []) 18 rfl rfl ⟨rfl, rfl⟩ (by omega) (zs_X10_isThrown_f (s := s) (v := 1) (by omega) ) ?_
    refine az_to 0 (pc2 := 18) (lv2 := [some (az_r 34), some (az_i (((b : Nat) : Int))), some (az_i (1)), none, none]) (st2 := [az_i (0)]) (s2 := am_up s 34 6 (0)) rfl ?_
    refine az_ifc 45 21 rfl (by decide) ⟨by decide, by decide⟩ (fun h => absurd h (by unfold az_cnd; decide)) (fun _ => ?_)
    refine az_to 4 (pc2 := 25) (lv2 := [some (az_r 34), some (az_i (((b : Nat) : Int))), some (az_i (1)), none, none]) (st2 := [az_i (5), az_i (((b : Nat) : Int)), az_r 34, az_r 34]) (s2 := am_up s 34 6 (0)) rfl ?_
    refine az_clv (v := some (az_i (zB S b 5))) (t := am_up s 34 6 (0)) (m2 := am_m_X10_of) (as := [az_r 34, az_i (((b : Nat) : Int)), az_i (5)]) (rest := [az_r 34]) 28 rfl rfl ⟨rfl, rfl⟩ (by omega) (zs_X10_of (s := am_up s 34 6 (0)) (b := b) (k := 5) (by omega) hS (by omega) (by omega)) ?_
    refine az_to 0 (pc2 := 28) (lv2 := [some (az_r 34), some (az_i (((b : Nat) : Int))), some (az_i (1)), none, none]) (st2 := [az_i (zB S b 5), az_r 34]) (s2 := am_up s 34 6 (0)) rfl ?_
    refine az_ifc 35 31 rfl (by decide) (by first | assumption | exact ⟨by omega, by omega⟩) (fun h2 => ?_) (fun h2 => ?_)
    · have h2 : 0 ≤ zB S b 5 := h2
      refine az_to 3 (pc2 := 39) (lv2 := [some (az_r 34), some (az_i (((b : Nat) : Int))), some (az_i (1)), none, none]) (st2 := [az_i (((b : Nat) : Int)), az_i (11), az_i (0), az_r 34]) (s2 := am_up s 34 6 (0)) rfl ?_
      refine az_clv (v := some (az_i (0))) (t := am_up s 34 6 (0)) (m2 := am_m_X10_isRefused) (as := [az_r 34, az_i (0), az_i (11), az_i (((b : Nat) : Int))]) (rest := []) 42 rfl rfl ⟨rfl, rfl⟩ (by omega) (zs_X10_isRefused_f (s := am_up s 34 6 (0)) (v := 11) (w := (((b : Nat) : Int))) (by omega) ) ?_
      refine az_to 0 (pc2 := 42) (lv2 := [some (az_r 34), some (az_i (((b : Nat) : Int))), some (az_i (1)), none, none]) (st2 := [az_i (0)]) (s2 := am_up s 34 6 (0)) rfl ?_
      refine az_ifc 47 45 rfl (by decide) ⟨by decide, by decide⟩ (fun _ => ?_) (fun h => absurd (show az_cnd _ _ _ by unfold az_cnd; decide) h)
      refine az_to 2 (pc2 := 49) (lv2 := [some (az_r 34), some (az_i (((b : Nat) : Int))), some (az_i (1)), none, none]) (st2 := [az_i (((b : Nat) : Int)), az_r 34]) (s2 := am_up s 34 6 (0)) rfl ?_
      refine az_clv (v := some (az_i (zs5 S b))) (t := am_up s 34 6 (0)) (m2 := am_m_X10_chest) (as := [az_r 34, az_i (((b : Nat) : Int))]) (rest := []) 52 rfl rfl ⟨rfl, rfl⟩ (by omega) (zs_X10_chest (s := am_up s 34 6 (0)) (b := b) (by omega) hS (by omega)) ?_
      refine az_to 0 (pc2 := 52) (lv2 := [some (az_r 34), some (az_i (((b : Nat) : Int))), some (az_i (1)), none, none]) (st2 := [az_i (zs5 S b)]) (s2 := am_up s 34 6 (0)) rfl ?_
      refine az_to 3 (pc2 := 55) (lv2 := [some (az_r 34), some (az_i (((b : Nat) : Int))), some (az_i (1)), some (az_i (zs5 S b)), none]) (st2 := [az_i (1), az_i (1)]) (s2 := am_up s 34 6 (0)) rfl ?_
      refine az_if2 81 58 rfl (by decide) ⟨by decide, by decide⟩ ⟨by decide, by decide⟩ (fun h => absurd h (by unfold az_cnd; decide)) (fun _ => ?_)
      refine az_to 2 (pc2 := 60) (lv2 := [some (az_r 34), some (az_i (((b : Nat) : Int))), some (az_i (1)), some (az_i (zs5 S b)), none]) (st2 := [az_i (((b : Nat) : Int)), az_r 34]) (s2 := am_up s 34 6 (0)) rfl ?_
      refine az_clv (v := some (az_i (zat S b))) (t := am_up s 34 6 (0)) (m2 := am_m_X10_trollAt) (as := [az_r 34, az_i (((b : Nat) : Int))]) (rest := []) 63 rfl rfl ⟨rfl, rfl⟩ (by omega) (zs_X10_trollAt (s := am_up s 34 6 (0)) (b := b) (by omega) hS hI hh (by omega)) ?_
      refine az_to 0 (pc2 := 63) (lv2 := [some (az_r 34), some (az_i (((b : Nat) : Int))), some (az_i (1)), some (az_i (zs5 S b)), none]) (st2 := [az_i (zat S b)]) (s2 := am_up s 34 6 (0)) rfl ?_
      obtain ⟨T, hT⟩ : ∃ n0 : Nat, zat S b = n0 := ⟨(zat S b).toNat, by omega⟩
      refine az_to 0 (pc2 := 63) (lv2 := [some (az_r 34), some (az_i (((b : Nat) : Int))), some (az_i (1)), some (az_i (zs5 S b)), none]) (st2 := [az_i (((T : Nat) : Int))]) (s2 := am_up s 34 6 (0)) (by rw [hT]; rfl) ?_
      refine az_to 7 (pc2 := 73) (lv2 := [some (az_r 34), some (az_i (((b : Nat) : Int))), some (az_i (1)), some (az_i (zs5 S b)), some (az_i (((T : Nat) : Int)))]) (st2 := [az_i (1), az_i (((T : Nat) : Int)), az_r 34, az_i (1), az_i (((T : Nat) : Int)), az_r 34]) (s2 := am_up s 34 6 (0)) rfl ?_
      refine az_clv (v := some (az_i (zT S T 1))) (t := am_up s 34 6 (0)) (m2 := am_m_X10_ofTroll) (as := [az_r 34, az_i (((T : Nat) : Int)), az_i (1)]) (rest := [az_i (1), az_i (((T : Nat) : Int)), az_r 34]) 76 rfl rfl ⟨rfl, rfl⟩ (by omega) (zs_X10_ofTroll (s := am_up s 34 6 (0)) (t := T) (k := 1) (by omega) hS (by omega) (by omega)) ?_
      refine az_to 0 (pc2 := 76) (lv2 := [some (az_r 34), some (az_i (((b : Nat) : Int))), some (az_i (1)), some (az_i (zs5 S b)), some (az_i (((T : Nat) : Int)))]) (st2 := [az_i (zT S T 1), az_i (1), az_i (((T : Nat) : Int)), az_r 34]) (s2 := am_up s 34 6 (0)) rfl ?_
      refine az_to 2 (pc2 := 78) (lv2 := [some (az_r 34), some (az_i (((b : Nat) : Int))), some (az_i (1)), some (az_i (zs5 S b)), some (az_i (((T : Nat) : Int)))]) (st2 := [az_i ((zT S T 1 + zs5 S b)), az_i (1), az_i (((T : Nat) : Int)), az_r 34]) (s2 := am_up s 34 6 (0)) rfl ?_
      refine az_clv (v := none) (t := am_up (am_up s 34 6 (0)) 35 (126 + 4 * T + 1) (((zT S T 1 + zs5 S b)))) (m2 := am_m_X10_setsTroll) (as := [az_r 34, az_i (((T : Nat) : Int)), az_i (1), az_i ((zT S T 1 + zs5 S b))]) (rest := []) 81 rfl rfl ⟨rfl, rfl⟩ (by omega) (zs_X10_setsTroll (s := am_up s 34 6 (0)) (t := T) (k := 1) (v := ((zT S T 1 + zs5 S b))) (by omega) (by omega) (by omega)) ?_
      refine az_to 0 (pc2 := 81) (lv2 := [some (az_r 34), some (az_i (((b : Nat) : Int))), some (az_i (1)), some (az_i (zs5 S b)), some (az_i (((T : Nat) : Int)))]) (st2 := []) (s2 := am_up (am_up s 34 6 (0)) 35 (126 + 4 * T + 1) (((zT S T 1 + zs5 S b)))) rfl ?_
      refine az_to 2 (pc2 := 84) (lv2 := [some (az_r 34), some (az_i (((b : Nat) : Int))), some (az_i (1)), some (az_i (zs5 S b)), some (az_i (0))]) (st2 := []) (s2 := am_up (am_up s 34 6 (0)) 35 (126 + 4 * T + 1) (((zT S T 1 + zs5 S b)))) rfl ?_
      exact zs_X10_settles_L1_L84 (by omega) hS hI hh (by omega) (by omega) _ 0 _ rfl (by omega) (by show zup (s 35) (126 + 4 * T + 1) (zT S T 1 + zs5 S b) = zsl (zsT S b 1) b 1 0; unfold zsl zsT; rw [if_pos rfl, hT, Int.toNat_natCast, hS]) rfl (fun j h6 => by simp [am_up, h6]) (fun i h1 h2 => by funext j; simp [am_up, h1, h2])
    · have h2 : ¬ (0 ≤ zB S b 5) := h2
      refine az_to 4 (pc2 := 39) (lv2 := [some (az_r 34), some (az_i (((b : Nat) : Int))), some (az_i (1)), none, none]) (st2 := [az_i (((b : Nat) : Int)), az_i (11), az_i (1), az_r 34]) (s2 := am_up s 34 6 (0)) rfl ?_
      refine az_clv (v := some (az_i (1))) (t := am_up (am_up (am_up (am_up (am_up s 34 6 (0)) 34 7 (11)) 34 8 ((((b : Nat) : Int)))) 34 9 (0)) 34 6 (9)) (m2 := am_m_X10_isRefused) (as := [az_r 34, az_i (1), az_i (11), az_i (((b : Nat) : Int))]) (rest := []) 42 rfl rfl ⟨rfl, rfl⟩ (by omega) (zs_X10_isRefused_t (s := am_up s 34 6 (0)) (v := 11) (w := (((b : Nat) : Int))) (by omega) ) ?_
      refine az_to 0 (pc2 := 42) (lv2 := [some (az_r 34), some (az_i (((b : Nat) : Int))), some (az_i (1)), none, none]) (st2 := [az_i (1)]) (s2 := am_up (am_up (am_up (am_up (am_up s 34 6 (0)) 34 7 (11)) 34 8 ((((b : Nat) : Int)))) 34 9 (0)) 34 6 (9)) rfl ?_
      refine az_ifc 47 45 rfl (by decide) ⟨by decide, by decide⟩ (fun h => absurd h (by unfold az_cnd; decide)) (fun _ => ?_)
      refine az_to 1 (pc2 := 46) (lv2 := [some (az_r 34), some (az_i (((b : Nat) : Int))), some (az_i (1)), none, none]) (st2 := [az_i (0)]) (s2 := am_up (am_up (am_up (am_up (am_up s 34 6 (0)) 34 7 (11)) 34 8 ((((b : Nat) : Int)))) 34 9 (0)) 34 6 (9)) rfl ?_
      refine az_retI rfl rfl ?_
      have e : zo_settle S ((b : Nat) : Int) 1 = (3, 11, (((b : Nat) : Int)), S) := by
        simp only [zo_settle, Int.toNat_natCast]
        first | (rw [if_pos (by omega)]) | (rw [if_neg (by omega), if_pos (by omega)]) | (rw [if_neg (by omega), if_neg (by omega), if_pos (by omega)]) | (rw [if_neg (by omega), if_neg (by omega), if_neg (by omega), if_pos (by omega)]) | (rw [if_neg (by omega), if_neg (by omega), if_neg (by omega), if_neg (by omega), if_pos (by omega)])
      rw [e]
      exact ⟨rfl, hS, rfl, (fun _ => ⟨rfl, rfl, rfl⟩), (fun h => absurd rfl h), (fun j h6 h7 h8 h9 => by simp [am_up, h6, h7, h8, h9]), (fun i h1 h2 => by funext j; simp [am_up, h1, h2])⟩
  · have h1 : ¬ (0 ≤ zb ∧ zb < ((zn S 0 : Nat) : Int)) := h1
    refine az_to 3 (pc2 := 15) (lv2 := [some (az_r 34), some (az_i (zb)), some (az_i (1)), none, none]) (st2 := [az_i (1), az_i (1), az_r 34]) (s2 := s) rfl ?_
    refine az_clv (v := some (az_i (1))) (t := am_up s 34 6 (1)) (m2 := am_m_X10_isThrown) (as := [az_r 34, az_i (1), az_i (1)]) (rest := []) 18 rfl rfl ⟨rfl, rfl⟩ (by omega) (zs_X10_isThrown_t (s := s) (v := 1) (by omega) ) ?_
    refine az_to 0 (pc2 := 18) (lv2 := [some (az_r 34), some (az_i (zb)), some (az_i (1)), none, none]) (st2 := [az_i (1)]) (s2 := am_up s 34 6 (1)) rfl ?_
    refine az_ifc 45 21 rfl (by decide) ⟨by decide, by decide⟩ (fun _ => ?_) (fun h => absurd (show az_cnd _ _ _ by unfold az_cnd; decide) h)
    refine az_to 1 (pc2 := 46) (lv2 := [some (az_r 34), some (az_i (zb)), some (az_i (1)), none, none]) (st2 := [az_i (0)]) (s2 := am_up s 34 6 (1)) rfl ?_
    refine az_retI rfl rfl ?_
    have e : zo_settle S zb 1 = (1, 0, 0, S) := by
      simp only [zo_settle, Int.toNat_natCast]
      first | (rw [if_pos (by omega)]) | (rw [if_neg (by omega), if_pos (by omega)]) | (rw [if_neg (by omega), if_neg (by omega), if_pos (by omega)]) | (rw [if_neg (by omega), if_neg (by omega), if_neg (by omega), if_pos (by omega)]) | (rw [if_neg (by omega), if_neg (by omega), if_neg (by omega), if_neg (by omega), if_pos (by omega)])
    rw [e]
    exact ⟨rfl, hS, rfl, (fun h => absurd (show (1 : Nat) = 3 from h) (by decide)), (fun _ => ⟨rfl, rfl, rfl⟩), (fun j h6 h7 h8 h9 => by simp [am_up, h6, h7, h8, h9]), (fun i h1 h2 => by funext j; simp [am_up, h1, h2])⟩
set_option maxRecDepth 100000 in
set_option maxHeartbeats 800000 in
theorem zs_X10_settles_L0_L84 {d : Nat} {s : az_S} (hd : 3 ≤ d) {S : zR} {h : Nat} (hS : s 35 = S) (hI : zInv S h) (hh : h ≤ 10000) {b : Nat} (hb : b < zn S 0) (hd : 0 ≤ zB S b 5) : ∀ (m : Nat) (k : Nat) (u : az_S), m = 5 - k → (k ≤ 5) → (u 35 = (zsl (zsT S b 0) b 0 k)) → (u 34 6 = 0) → (∀ j, j ≠ 6 → u 34 j = s 34 j) → (∀ i, i ≠ 34 → i ≠ 35 → u i = s i) → az_R d am_m_X10_settles 84 [some (az_r 34), some (az_i (((b : Nat) : Int))), some (az_i (0)), some (az_i (zs5 S b)), some (az_i (((k : Nat) : Int)))] [] (u) (zMq s (zo_settle S ((b : Nat) : Int) 0) 2) := by
  intro m
  induction m using Nat.strongRecOn with
  | _ m ih =>
    intro k u hm g0 g1 g2 g3 g4
    have hz := zI_h hI hh
    have hs0 : s 35 0 = ((zn S 0 : Nat) : Int) := by rw [hS, hz.2.1.1]
    have hs1 : s 35 1 = ((zn S 1 : Nat) : Int) := by rw [hS, hz.2.1.2.1]
    have hs2 : s 35 2 = ((zn S 2 : Nat) : Int) := by rw [hS, hz.2.1.2.2]
    have hs3 : s 35 3 = S 3 := by rw [hS]
    have hs5 : s 35 5 = S 5 := by rw [hS]
    have hzb := zI_b hI hh hb
    refine az_to 2 (pc2 := 87) (lv2 := [some (az_r 34), some (az_i (((b : Nat) : Int))), some (az_i (0)), some (az_i (zs5 S b)), some (az_i (((k : Nat) : Int)))]) (st2 := [az_i (5), az_i (((k : Nat) : Int))]) (s2 := u) rfl ?_
    refine az_if2 141 90 rfl (by decide) (by first | assumption | exact ⟨by omega, by omega⟩) ⟨by decide, by decide⟩ (fun h1 => ?_) (fun h1 => ?_)
    · have h1 : 5 ≤ ((k : Nat) : Int) := h1
      refine az_to 4 (pc2 := 145) (lv2 := [some (az_r 34), some (az_i (((b : Nat) : Int))), some (az_i (0)), some (az_i (zs5 S b)), some (az_i (((k : Nat) : Int)))]) (st2 := [az_i (-1), az_i (5), az_i (((b : Nat) : Int)), az_r 34]) (s2 := u) rfl ?_
      refine az_clv (v := none) (t := am_up u 35 (6 + 12 * b + 5) ((-1))) (m2 := am_m_X10_sets) (as := [az_r 34, az_i (((b : Nat) : Int)), az_i (5), az_i (-1)]) (rest := []) 148 rfl rfl ⟨rfl, rfl⟩ (by omega) (zs_X10_sets (s := u) (b := b) (k := 5) (v := (-1)) (by omega) (by omega) (by omega)) ?_
      refine az_to 0 (pc2 := 148) (lv2 := [some (az_r 34), some (az_i (((b : Nat) : Int))), some (az_i (0)), some (az_i (zs5 S b)), some (az_i (((k : Nat) : Int)))]) (st2 := []) (s2 := am_up u 35 (6 + 12 * b + 5) ((-1))) rfl ?_
      refine az_to 1 (pc2 := 149) (lv2 := [some (az_r 34), some (az_i (((b : Nat) : Int))), some (az_i (0)), some (az_i (zs5 S b)), some (az_i (((k : Nat) : Int)))]) (st2 := [az_i (zs5 S b)]) (s2 := am_up u 35 (6 + 12 * b + 5) ((-1))) rfl ?_
      refine az_retI rfl rfl ?_
      have e : zo_settle S b 0 = (0, zs5 S b, 0, zsS S b 0) := by
        simp only [zo_settle, Int.toNat_natCast]
        rw [if_neg (by omega), if_neg (by omega)]
      rw [e]
      exact ⟨rfl, (by have e9 : k = 5 := (by omega); show zup (u 35) (6 + 12 * b + 5) (-1) = _; rw [g1, e9]; rfl), (by show _ = (0 : Int); rw [← g2]; simp [am_up]), (fun h => absurd (show (0 : Nat) = 3 from h) (by decide)), (fun _ => ⟨by rw [← g3 7 (by decide)]; simp [am_up], by rw [← g3 8 (by decide)]; simp [am_up], by rw [← g3 9 (by decide)]; simp [am_up]⟩), (fun j h6 h7 h8 h9 => by rw [← g3 j h6]; simp [am_up]), (fun i h1 h2 => by rw [← g4 i h1 h2]; funext j; simp [am_up, h2])⟩
    · have h1 : ¬ (5 ≤ ((k : Nat) : Int)) := h1
      refine az_to 6 (pc2 := 98) (lv2 := [some (az_r 34), some (az_i (((b : Nat) : Int))), some (az_i (0)), some (az_i (zs5 S b)), some (az_i (((k : Nat) : Int)))]) (st2 := [az_i (1), az_i (((k : Nat) : Int)), az_r 34, az_i (1), az_i (((k : Nat) : Int)), az_r 34]) (s2 := u) rfl ?_
      refine az_clv (v := some (az_i (zG (zsl (zsT S b 0) b 0 k) k 1))) (t := u) (m2 := am_m_X10_ofGoat) (as := [az_r 34, az_i (((k : Nat) : Int)), az_i (1)]) (rest := [az_i (1), az_i (((k : Nat) : Int)), az_r 34]) 101 rfl rfl ⟨rfl, rfl⟩ (by omega) (zs_X10_ofGoat (s := u) (g := k) (k := 1) (by omega) g1 (by omega) (by omega)) ?_
      refine az_to 0 (pc2 := 101) (lv2 := [some (az_r 34), some (az_i (((b : Nat) : Int))), some (az_i (0)), some (az_i (zs5 S b)), some (az_i (((k : Nat) : Int)))]) (st2 := [az_i (zG (zsl (zsT S b 0) b 0 k) k 1), az_i (1), az_i (((k : Nat) : Int)), az_r 34]) (s2 := u) rfl ?_
      refine az_to 0 (pc2 := 101) (lv2 := [some (az_r 34), some (az_i (((b : Nat) : Int))), some (az_i (0)), some (az_i (zs5 S b)), some (az_i (((k : Nat) : Int)))]) (st2 := [az_i (zG (zsT S b 0) k 1), az_i (1), az_i (((k : Nat) : Int)), az_r 34]) (s2 := u) (by rw [show zG (zsl (zsT S b 0) b 0 k) k 1 = zG (zsT S b 0) k 1 from zsl_o _ _ _ _ _ (fun g hg => by omega)]; rfl) ?_
      refine az_to 2 (pc2 := 103) (lv2 := [some (az_r 34), some (az_i (((b : Nat) : Int))), some (az_i (0)), some (az_i (zs5 S b)), some (az_i (((k : Nat) : Int)))]) (st2 := [az_i (1), az_i (0), az_i (zG (zsT S b 0) k 1), az_i (1), az_i (((k : Nat) : Int)), az_r 34]) (s2 := u) rfl ?_
      refine az_if2 110 106 rfl (by decide) ⟨by decide, by decide⟩ ⟨by decide, by decide⟩ (fun _ => ?_) (fun h => absurd (show az_cnd _ _ _ by unfold az_cnd; decide) h)
      refine az_to 5 (pc2 := 117) (lv2 := [some (az_r 34), some (az_i (((b : Nat) : Int))), some (az_i (0)), some (az_i (zs5 S b)), some (az_i (((k : Nat) : Int)))]) (st2 := [az_i ((7 + ((k : Nat) : Int))), az_i (((b : Nat) : Int)), az_r 34, az_i (zG (zsT S b 0) k 1), az_i (1), az_i (((k : Nat) : Int)), az_r 34]) (s2 := u) rfl ?_
      refine az_clv (v := some (az_i (zB (zsl (zsT S b 0) b 0 k) b (7 + k)))) (t := u) (m2 := am_m_X10_of) (as := [az_r 34, az_i (((b : Nat) : Int)), az_i ((7 + ((k : Nat) : Int)))]) (rest := [az_i (zG (zsT S b 0) k 1), az_i (1), az_i (((k : Nat) : Int)), az_r 34]) 120 rfl rfl ⟨rfl, rfl⟩ (by omega) (zs_X10_of (s := u) (b := b) (k := (7 + k)) (by omega) g1 (by omega) (by omega)) ?_
      refine az_to 0 (pc2 := 120) (lv2 := [some (az_r 34), some (az_i (((b : Nat) : Int))), some (az_i (0)), some (az_i (zs5 S b)), some (az_i (((k : Nat) : Int)))]) (st2 := [az_i (zB (zsl (zsT S b 0) b 0 k) b (7 + k)), az_i (zG (zsT S b 0) k 1), az_i (1), az_i (((k : Nat) : Int)), az_r 34]) (s2 := u) rfl ?_
      refine az_to 0 (pc2 := 120) (lv2 := [some (az_r 34), some (az_i (((b : Nat) : Int))), some (az_i (0)), some (az_i (zs5 S b)), some (az_i (((k : Nat) : Int)))]) (st2 := [az_i (zB (zsT S b 0) b (7 + k)), az_i (zG (zsT S b 0) k 1), az_i (1), az_i (((k : Nat) : Int)), az_r 34]) (s2 := u) (by rw [show zB (zsl (zsT S b 0) b 0 k) b (7 + k) = zB (zsT S b 0) b (7 + k) from zsl_o _ _ _ _ _ (fun g hg => by omega)]; rfl) ?_
      refine az_to 1 (pc2 := 121) (lv2 := [some (az_r 34), some (az_i (((b : Nat) : Int))), some (az_i (0)), some (az_i (zs5 S b)), some (az_i (((k : Nat) : Int)))]) (st2 := [az_i ((zG (zsT S b 0) k 1 + zB (zsT S b 0) b (7 + k))), az_i (1), az_i (((k : Nat) : Int)), az_r 34]) (s2 := u) rfl ?_
      refine az_clv (v := none) (t := am_up u 35 (150 + 5 * k + 1) (((zG (zsT S b 0) k 1 + zB (zsT S b 0) b (7 + k))))) (m2 := am_m_X10_setsGoat) (as := [az_r 34, az_i (((k : Nat) : Int)), az_i (1), az_i ((zG (zsT S b 0) k 1 + zB (zsT S b 0) b (7 + k)))]) (rest := []) 124 rfl rfl ⟨rfl, rfl⟩ (by omega) (zs_X10_setsGoat (s := u) (g := k) (k := 1) (v := ((zG (zsT S b 0) k 1 + zB (zsT S b 0) b (7 + k)))) (by omega) (by omega) (by omega)) ?_
      refine az_to 0 (pc2 := 124) (lv2 := [some (az_r 34), some (az_i (((b : Nat) : Int))), some (az_i (0)), some (az_i (zs5 S b)), some (az_i (((k : Nat) : Int)))]) (st2 := []) (s2 := am_up u 35 (150 + 5 * k + 1) (((zG (zsT S b 0) k 1 + zB (zsT S b 0) b (7 + k))))) rfl ?_
      refine az_to 6 (pc2 := 132) (lv2 := [some (az_r 34), some (az_i (((b : Nat) : Int))), some (az_i (0)), some (az_i (zs5 S b)), some (az_i (((k : Nat) : Int)))]) (st2 := [az_i (0), az_i ((7 + ((k : Nat) : Int))), az_i (((b : Nat) : Int)), az_r 34]) (s2 := am_up u 35 (150 + 5 * k + 1) (((zG (zsT S b 0) k 1 + zB (zsT S b 0) b (7 + k))))) rfl ?_
      refine az_clv (v := none) (t := am_up (am_up u 35 (150 + 5 * k + 1) (((zG (zsT S b 0) k 1 + zB (zsT S b 0) b (7 + k))))) 35 (6 + 12 * b + (7 + k)) (0)) (m2 := am_m_X10_sets) (as := [az_r 34, az_i (((b : Nat) : Int)), az_i ((7 + ((k : Nat) : Int))), az_i (0)]) (rest := []) 135 rfl rfl ⟨rfl, rfl⟩ (by omega) (zs_X10_sets (s := am_up u 35 (150 + 5 * k + 1) (((zG (zsT S b 0) k 1 + zB (zsT S b 0) b (7 + k))))) (b := b) (k := (7 + k)) (v := 0) (by omega) (by omega) (by omega)) ?_
      refine az_to 0 (pc2 := 135) (lv2 := [some (az_r 34), some (az_i (((b : Nat) : Int))), some (az_i (0)), some (az_i (zs5 S b)), some (az_i (((k : Nat) : Int)))]) (st2 := []) (s2 := am_up (am_up u 35 (150 + 5 * k + 1) (((zG (zsT S b 0) k 1 + zB (zsT S b 0) b (7 + k))))) 35 (6 + 12 * b + (7 + k)) (0)) rfl ?_
      refine az_to 2 (pc2 := 84) (lv2 := [some (az_r 34), some (az_i (((b : Nat) : Int))), some (az_i (0)), some (az_i (zs5 S b)), some (az_i ((((k : Nat) : Int) + 1)))]) (st2 := []) (s2 := am_up (am_up u 35 (150 + 5 * k + 1) (((zG (zsT S b 0) k 1 + zB (zsT S b 0) b (7 + k))))) 35 (6 + 12 * b + (7 + k)) (0)) rfl ?_
      exact ih _ (by omega) (k + 1) _ rfl (by omega) (by show _ = zup (zup (zsl (zsT S b 0) b 0 k) (150 + 5 * k + 1) (zG (zsT S b 0) k 1 + zB (zsT S b 0) b (7 + k))) (6 + 12 * b + (7 + k)) 0; rw [← g1]; rfl) g2 g3 (fun i h1 h2 => by rw [← g4 i h1 h2]; funext j; simp [am_up, h2])
set_option maxRecDepth 100000 in
set_option maxHeartbeats 800000 in
theorem zs_X10_settles_0 {d : Nat} {s : az_S} (hd : 4 ≤ d) {S : zR} {h : Nat} (hS : s 35 = S) (hI : zInv S h) (hh : h ≤ 10000) {zb : Int} (h_zb : az_in zb) : az_R d am_m_X10_settles 0 (az_ini (am_mL am_m_X10_settles) [az_r 34, az_i (zb), az_i (0)]) [] (s) (zMq s (zo_settle S zb 0) 2) := by
  have hz := zI_h hI hh
  have hs0 : s 35 0 = ((zn S 0 : Nat) : Int) := by rw [hS, hz.2.1.1]
  have hs1 : s 35 1 = ((zn S 1 : Nat) : Int) := by rw [hS, hz.2.1.2.1]
  have hs2 : s 35 2 = ((zn S 2 : Nat) : Int) := by rw [hS, hz.2.1.2.2]
  have hs3 : s 35 3 = S 3 := by rw [hS]
  have hs5 : s 35 5 = S 5 := by rw [hS]
  refine az_to 0 (pc2 := 0) (lv2 := [some (az_r 34), some (az_i (zb)), some (az_i (0)), none, none]) (st2 := []) (s2 := s) rfl ?_
  refine az_to 3 (pc2 := 3) (lv2 := [some (az_r 34), some (az_i (zb)), some (az_i (0)), none, none]) (st2 := [az_i (zb), az_r 34, az_r 34]) (s2 := s) rfl ?_
  refine az_clv (v := some (az_i (az_b (0 ≤ zb ∧ zb < ((zn S 0 : Nat) : Int))))) (t := s) (m2 := am_m_X10_isBridge) (as := [az_r 34, az_i (zb)]) (rest := [az_r 34]) 6 rfl rfl ⟨rfl, rfl⟩ (by omega) (zs_X10_isBridge (s := s) (z := zb) (by omega) hS hI hh (by first | assumption | exact ⟨by omega, by omega⟩)) ?_
  refine az_to 0 (pc2 := 6) (lv2 := [some (az_r 34), some (az_i (zb)), some (az_i (0)), none, none]) (st2 := [az_i (az_b (0 ≤ zb ∧ zb < ((zn S 0 : Nat) : Int))), az_r 34]) (s2 := s) rfl ?_
  refine az_ifbn 13 9 rfl (by decide) (fun h1 => ?_) (fun h1 => ?_)
  · have h1 : 0 ≤ zb ∧ zb < ((zn S 0 : Nat) : Int) := h1
    obtain ⟨b, rfl⟩ : ∃ n0 : Nat, zb = n0 := ⟨zb.toNat, by omega⟩
    have hzb := zI_b hI hh (b := b) (by omega)
    have hzc2 := (hI.2.1 b (by omega)).2.2.2.2
    refine az_to 0 (pc2 := 13) (lv2 := [some (az_r 34), some (az_i (((b : Nat) : Int))), some (az_i (0)), none, none]) (st2 := [az_r 34]) (s2 := s) (rfl) ?_
    refine az_to 2 (pc2 := 15) (lv2 := [some (az_r 34), some (az_i (((b : Nat) : Int))), some (az_i (0)), none, none]) (st2 := [az_i (1), az_i (0), az_r 34]) (s2 := s) rfl ?_
    refine az_clv (v := some (az_i (0))) (t := am_up s 34 6 (0)) (m2 := am_m_X10_isThrown) (as := [az_r 34, az_i (0), az_i (1)]) (rest := []) 18 rfl rfl ⟨rfl, rfl⟩ (by omega) (zs_X10_isThrown_f (s := s) (v := 1) (by omega) ) ?_
    refine az_to 0 (pc2 := 18) (lv2 := [some (az_r 34), some (az_i (((b : Nat) : Int))), some (az_i (0)), none, none]) (st2 := [az_i (0)]) (s2 := am_up s 34 6 (0)) rfl ?_
    refine az_ifc 45 21 rfl (by decide) ⟨by decide, by decide⟩ (fun h => absurd h (by unfold az_cnd; decide)) (fun _ => ?_)
    refine az_to 4 (pc2 := 25) (lv2 := [some (az_r 34), some (az_i (((b : Nat) : Int))), some (az_i (0)), none, none]) (st2 := [az_i (5), az_i (((b : Nat) : Int)), az_r 34, az_r 34]) (s2 := am_up s 34 6 (0)) rfl ?_
    refine az_clv (v := some (az_i (zB S b 5))) (t := am_up s 34 6 (0)) (m2 := am_m_X10_of) (as := [az_r 34, az_i (((b : Nat) : Int)), az_i (5)]) (rest := [az_r 34]) 28 rfl rfl ⟨rfl, rfl⟩ (by omega) (zs_X10_of (s := am_up s 34 6 (0)) (b := b) (k := 5) (by omega) hS (by omega) (by omega)) ?_
    refine az_to 0 (pc2 := 28) (lv2 := [some (az_r 34), some (az_i (((b : Nat) : Int))), some (az_i (0)), none, none]) (st2 := [az_i (zB S b 5), az_r 34]) (s2 := am_up s 34 6 (0)) rfl ?_
    refine az_ifc 35 31 rfl (by decide) (by first | assumption | exact ⟨by omega, by omega⟩) (fun h2 => ?_) (fun h2 => ?_)
    · have h2 : 0 ≤ zB S b 5 := h2
      refine az_to 3 (pc2 := 39) (lv2 := [some (az_r 34), some (az_i (((b : Nat) : Int))), some (az_i (0)), none, none]) (st2 := [az_i (((b : Nat) : Int)), az_i (11), az_i (0), az_r 34]) (s2 := am_up s 34 6 (0)) rfl ?_
      refine az_clv (v := some (az_i (0))) (t := am_up s 34 6 (0)) (m2 := am_m_X10_isRefused) (as := [az_r 34, az_i (0), az_i (11), az_i (((b : Nat) : Int))]) (rest := []) 42 rfl rfl ⟨rfl, rfl⟩ (by omega) (zs_X10_isRefused_f (s := am_up s 34 6 (0)) (v := 11) (w := (((b : Nat) : Int))) (by omega) ) ?_
      refine az_to 0 (pc2 := 42) (lv2 := [some (az_r 34), some (az_i (((b : Nat) : Int))), some (az_i (0)), none, none]) (st2 := [az_i (0)]) (s2 := am_up s 34 6 (0)) rfl ?_
      refine az_ifc 47 45 rfl (by decide) ⟨by decide, by decide⟩ (fun _ => ?_) (fun h => absurd (show az_cnd _ _ _ by unfold az_cnd; decide) h)
      refine az_to 2 (pc2 := 49) (lv2 := [some (az_r 34), some (az_i (((b : Nat) : Int))), some (az_i (0)), none, none]) (st2 := [az_i (((b : Nat) : Int)), az_r 34]) (s2 := am_up s 34 6 (0)) rfl ?_
      refine az_clv (v := some (az_i (zs5 S b))) (t := am_up s 34 6 (0)) (m2 := am_m_X10_chest) (as := [az_r 34, az_i (((b : Nat) : Int))]) (rest := []) 52 rfl rfl ⟨rfl, rfl⟩ (by omega) (zs_X10_chest (s := am_up s 34 6 (0)) (b := b) (by omega) hS (by omega)) ?_
      refine az_to 0 (pc2 := 52) (lv2 := [some (az_r 34), some (az_i (((b : Nat) : Int))), some (az_i (0)), none, none]) (st2 := [az_i (zs5 S b)]) (s2 := am_up s 34 6 (0)) rfl ?_
      refine az_to 3 (pc2 := 55) (lv2 := [some (az_r 34), some (az_i (((b : Nat) : Int))), some (az_i (0)), some (az_i (zs5 S b)), none]) (st2 := [az_i (1), az_i (0)]) (s2 := am_up s 34 6 (0)) rfl ?_
      refine az_if2 81 58 rfl (by decide) ⟨by decide, by decide⟩ ⟨by decide, by decide⟩ (fun _ => ?_) (fun h => absurd (show az_cnd _ _ _ by unfold az_cnd; decide) h)
      refine az_to 2 (pc2 := 84) (lv2 := [some (az_r 34), some (az_i (((b : Nat) : Int))), some (az_i (0)), some (az_i (zs5 S b)), some (az_i (0))]) (st2 := []) (s2 := am_up s 34 6 (0)) rfl ?_
      exact zs_X10_settles_L0_L84 (by omega) hS hI hh (by omega) (by omega) _ 0 _ rfl (by omega) (by unfold zsl zsT; rw [if_neg (by decide)]; exact hS) rfl (fun j h6 => by simp [am_up, h6]) (fun i h1 h2 => by funext j; simp [am_up, h1, h2])
    · have h2 : ¬ (0 ≤ zB S b 5) := h2
      refine az_to 4 (pc2 := 39) (lv2 := [some (az_r 34), some (az_i (((b : Nat) : Int))), some (az_i (0)), none, none]) (st2 := [az_i (((b : Nat) : Int)), az_i (11), az_i (1), az_r 34]) (s2 := am_up s 34 6 (0)) rfl ?_
      refine az_clv (v := some (az_i (1))) (t := am_up (am_up (am_up (am_up (am_up s 34 6 (0)) 34 7 (11)) 34 8 ((((b : Nat) : Int)))) 34 9 (0)) 34 6 (9)) (m2 := am_m_X10_isRefused) (as := [az_r 34, az_i (1), az_i (11), az_i (((b : Nat) : Int))]) (rest := []) 42 rfl rfl ⟨rfl, rfl⟩ (by omega) (zs_X10_isRefused_t (s := am_up s 34 6 (0)) (v := 11) (w := (((b : Nat) : Int))) (by omega) ) ?_
      refine az_to 0 (pc2 := 42) (lv2 := [some (az_r 34), some (az_i (((b : Nat) : Int))), some (az_i (0)), none, none]) (st2 := [az_i (1)]) (s2 := am_up (am_up (am_up (am_up (am_up s 34 6 (0)) 34 7 (11)) 34 8 ((((b : Nat) : Int)))) 34 9 (0)) 34 6 (9)) rfl ?_
      refine az_ifc 47 45 rfl (by decide) ⟨by decide, by decide⟩ (fun h => absurd h (by unfold az_cnd; decide)) (fun _ => ?_)
      refine az_to 1 (pc2 := 46) (lv2 := [some (az_r 34), some (az_i (((b : Nat) : Int))), some (az_i (0)), none, none]) (st2 := [az_i (0)]) (s2 := am_up (am_up (am_up (am_up (am_up s 34 6 (0)) 34 7 (11)) 34 8 ((((b : Nat) : Int)))) 34 9 (0)) 34 6 (9)) rfl ?_
      refine az_retI rfl rfl ?_
      have e : zo_settle S ((b : Nat) : Int) 0 = (3, 11, (((b : Nat) : Int)), S) := by
        simp only [zo_settle, Int.toNat_natCast]
        first | (rw [if_pos (by omega)]) | (rw [if_neg (by omega), if_pos (by omega)]) | (rw [if_neg (by omega), if_neg (by omega), if_pos (by omega)]) | (rw [if_neg (by omega), if_neg (by omega), if_neg (by omega), if_pos (by omega)]) | (rw [if_neg (by omega), if_neg (by omega), if_neg (by omega), if_neg (by omega), if_pos (by omega)])
      rw [e]
      exact ⟨rfl, hS, rfl, (fun _ => ⟨rfl, rfl, rfl⟩), (fun h => absurd rfl h), (fun j h6 h7 h8 h9 => by simp [am_up, h6, h7, h8, h9]), (fun i h1 h2 => by funext j; simp [am_up, h1, h2])⟩
  · have h1 : ¬ (0 ≤ zb ∧ zb < ((zn S 0 : Nat) : Int)) := h1
    refine az_to 3 (pc2 := 15) (lv2 := [some (az_r 34), some (az_i (zb)), some (az_i (0)), none, none]) (st2 := [az_i (1), az_i (1), az_r 34]) (s2 := s) rfl ?_
    refine az_clv (v := some (az_i (1))) (t := am_up s 34 6 (1)) (m2 := am_m_X10_isThrown) (as := [az_r 34, az_i (1), az_i (1)]) (rest := []) 18 rfl rfl ⟨rfl, rfl⟩ (by omega) (zs_X10_isThrown_t (s := s) (v := 1) (by omega) ) ?_
    refine az_to 0 (pc2 := 18) (lv2 := [some (az_r 34), some (az_i (zb)), some (az_i (0)), none, none]) (st2 := [az_i (1)]) (s2 := am_up s 34 6 (1)) rfl ?_
    refine az_ifc 45 21 rfl (by decide) ⟨by decide, by decide⟩ (fun _ => ?_) (fun h => absurd (show az_cnd _ _ _ by unfold az_cnd; decide) h)
    refine az_to 1 (pc2 := 46) (lv2 := [some (az_r 34), some (az_i (zb)), some (az_i (0)), none, none]) (st2 := [az_i (0)]) (s2 := am_up s 34 6 (1)) rfl ?_
    refine az_retI rfl rfl ?_
    have e : zo_settle S zb 0 = (1, 0, 0, S) := by
      simp only [zo_settle, Int.toNat_natCast]
      first | (rw [if_pos (by omega)]) | (rw [if_neg (by omega), if_pos (by omega)]) | (rw [if_neg (by omega), if_neg (by omega), if_pos (by omega)]) | (rw [if_neg (by omega), if_neg (by omega), if_neg (by omega), if_pos (by omega)]) | (rw [if_neg (by omega), if_neg (by omega), if_neg (by omega), if_neg (by omega), if_pos (by omega)])
    rw [e]
    exact ⟨rfl, hS, rfl, (fun h => absurd (show (1 : Nat) = 3 from h) (by decide)), (fun _ => ⟨rfl, rfl, rfl⟩), (fun j h6 h7 h8 h9 => by simp [am_up, h6, h7, h8, h9]), (fun i h1 h2 => by funext j; simp [am_up, h1, h2])⟩
