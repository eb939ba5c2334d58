/-! REFERENCE, 14: read; written by program (wip/tools/zg/r14.py) -/
def zry (u : az_S) (c : Nat) (L : List (Nat × List Int)) : Prop := ∀ q, q < L.length → u 42 (5 * (c + q)) = (((zcl L q).1 : Nat) : Int) ∧ ∀ p, p < (zcl L q).2.length → u 42 (5 * (c + q) + 1 + p) = (zcl L q).2.getD p 0
theorem zry_0 {u : az_S} {c : Nat} {x : Nat × List Int} {L : List (Nat × List Int)} (h : zry u c (x :: L)) : u 42 (5 * c) = ((x.1 : Nat) : Int) ∧ ∀ p, p < x.2.length → u 42 (5 * c + 1 + p) = x.2.getD p 0 := h 0 (by rw [List.length_cons]; omega)
theorem zry_s {u t : az_S} {c : Nat} {x : Nat × List Int} {L : List (Nat × List Int)} (h : zry u c (x :: L)) (e1 : t 42 = u 42) : zry t (c + 1) L := fun q hq => by
  have h1 := h (q + 1) (by rw [List.length_cons]; omega)
  rw [e1, show c + 1 + q = c + (q + 1) from by omega]
  exact h1
def zrF (s t : az_S) (o : az_O) (c m : Nat) (r : Nat × zQ) : Prop :=
  (r.2.1 = 0 → o = .inl (some (az_i ((m : Nat) : Int))) ∧ t 35 = r.2.2.2.2 ∧ t 34 6 = 0 ∧ t 34 5 = ((if c = 8 then 8 else c + 1 : Nat) : Int) ∧ t 38 = zpast (s 38) (s 36) c ∧ (∀ j, j ≠ 5 → j ≠ 6 → t 34 j = s 34 j)) ∧
  (r.2.1 ≠ 0 → o = .inl (some (az_i 0)) ∧ t 34 6 = 2 ∧ (∃ X, t 35 = va_cpy (s 36) X 0 0 175) ∧ t 34 5 = s 34 5 ∧ t 38 = s 38 ∧ t 34 7 = 12 ∧ t 34 8 = ((r.1 : Nat) : Int) ∧ t 34 9 = (if r.2.1 = 3 then r.2.2.1 else 0) ∧ (r.2.1 = 3 → t 34 10 = r.2.2.2.1) ∧ (∀ j, j ≠ 6 → j ≠ 7 → j ≠ 8 → j ≠ 9 → j ≠ 10 → t 34 j = s 34 j)) ∧ (∀ i, i ≠ 34 → i ≠ 35 → i ≠ 38 → t i = s i)
/-- what read of the reference leaves -/
def zrG (s t : az_S) (o : az_O) (S : zR) (T : Nat → Int) (n c : Nat) : Prop :=
  ((zpr T n 11 0).2.1 = false → o = .inl (some (az_i 0)) ∧ t 34 6 = 1 ∧ t 34 11 = (zpr T n 11 0).2.2 ∧ t 34 17 = 0 ∧ (∀ j, j ≠ 6 → j ≠ 11 → j ≠ 17 → j ≠ 18 → j ≠ 19 → j ≠ 20 → t 34 j = s 34 j) ∧ (∀ i, i ≠ 34 → i ≠ 42 → t i = s i)) ∧
  ((zpr T n 11 0).2.1 = true → ∃ w, w 36 = va_cpy (s 35) (s 36) 0 0 175 ∧ w 34 17 = 0 ∧ (∀ j, j ≠ 6 → j ≠ 17 → j ≠ 18 → j ≠ 19 → j ≠ 20 → w 34 j = s 34 j) ∧ (∀ i, i ≠ 34 → i ≠ 36 → i ≠ 42 → w i = s i) ∧ zrF w t o c (zpr T n 11 0).1.length (zrn S 0 (zpr T n 11 0).1))
set_option maxRecDepth 100000 in
set_option maxHeartbeats 800000 in
theorem zs_X10_isBehind_t {d : Nat} {s : az_S} (hd : 0 ≤ d) {k : Nat} : az_R d am_m_X10_isBehind 0 (az_ini (am_mL am_m_X10_isBehind) [az_r 34, az_i (1), az_i (((k : Nat) : Int))]) [] (s) (az_ret (none) (am_up (am_up (am_up (am_up s 34 9 (s 34 7)) 34 10 (s 34 8)) 34 7 (12)) 34 8 (((k : Nat) : Int)))) := by
  refine az_to 0 (pc2 := 0) (lv2 := [some (az_r 34), some (az_i (1)), some (az_i (((k : Nat) : Int)))]) (st2 := []) (s2 := s) rfl ?_
  refine az_to 2 (pc2 := 2) (lv2 := [some (az_r 34), some (az_i (1)), some (az_i (((k : Nat) : Int)))]) (st2 := [az_i (1), az_r 34]) (s2 := s) rfl ?_
  refine az_ifc 12 5 rfl (by decide) ⟨by decide, by decide⟩ (fun h => absurd h (by unfold az_cnd; decide)) (fun _ => ?_)
  refine az_to 14 (pc2 := 35) (lv2 := [some (az_r 34), some (az_i (1)), some (az_i (((k : Nat) : Int)))]) (st2 := []) (s2 := am_up (am_up (am_up (am_up s 34 9 (s 34 7)) 34 10 ((am_up s 34 9 (s 34 7)) 34 8)) 34 7 (12)) 34 8 (((k : Nat) : Int))) rfl ?_
  refine az_ret0 rfl rfl ?_
  exact ⟨rfl, rfl⟩
set_option maxRecDepth 100000 in
set_option maxHeartbeats 800000 in
theorem zs_X10_isBehind_f {d : Nat} {s : az_S} (hd : 0 ≤ d) {k : Nat} : az_R d am_m_X10_isBehind 0 (az_ini (am_mL am_m_X10_isBehind) [az_r 34, az_i (0), az_i (((k : Nat) : Int))]) [] (s) (az_ret (none) (am_up (am_up (am_up (am_up s 34 9 (0)) 34 10 (s 34 8)) 34 7 (12)) 34 8 (((k : Nat) : Int)))) := by
  refine az_to 0 (pc2 := 0) (lv2 := [some (az_r 34), some (az_i (0)), some (az_i (((k : Nat) : Int)))]) (st2 := []) (s2 := s) rfl ?_
  refine az_to 2 (pc2 := 2) (lv2 := [some (az_r 34), some (az_i (0)), some (az_i (((k : Nat) : Int)))]) (st2 := [az_i (0), az_r 34]) (s2 := s) rfl ?_
  refine az_ifc 12 5 rfl (by decide) ⟨by decide, by decide⟩ (fun _ => ?_) (fun h => absurd (show az_cnd _ _ _ by unfold az_cnd; decide) h)
  refine az_to 12 (pc2 := 35) (lv2 := [some (az_r 34), some (az_i (0)), some (az_i (((k : Nat) : Int)))]) (st2 := []) (s2 := am_up (am_up (am_up (am_up s 34 9 (0)) 34 10 ((am_up s 34 9 (0)) 34 8)) 34 7 (12)) 34 8 (((k : Nat) : Int))) rfl ?_
  refine az_ret0 rfl rfl ?_
  exact ⟨rfl, rfl⟩
set_option maxRecDepth 100000 in
set_option maxHeartbeats 800000 in
theorem zs_X10_read_L43 {d : Nat} {s : az_S} (hd : 9 ≤ d) {c h m : Nat} {zx : Int} (hh9 : h + 10 ≤ 10000) (hc : s 34 5 = ((c : Nat) : Int)) (hc8 : c ≤ 8) (hm9 : s 34 19 = ((m : Nat) : Int)) (hm10 : m ≤ 10)  : ∀ (mq : Nat) (L : List (Nat × List Int)) (k : Nat) (S : zR) (u : az_S) (lo : Option az_V), mq = L.length → (∀ x, x ∈ L → zgc x.1 x.2) → (k + L.length = m) → (zry u k L) → (u 35 = S) → (zInv S (h + k)) → (∀ i, i ≠ 34 → i ≠ 35 → u i = s i) → (∀ j, j ≠ 6 → u 34 j = s 34 j) → (u 34 6 = 0) → az_R d am_m_X10_read 43 [some (az_r 34), some (az_i (zx)), some (az_i (((k : Nat) : Int))), lo] [] (u) (fun o t => zrF s t o c m (zrn S k L)) := by
  intro mq
  induction mq using Nat.strongRecOn with
  | _ mq ih =>
    intro L k S u lo hm g0 g1 g2 g3 g4 g5 g6 g7
    have g60 : u 34 6 = 0 := g7
    have hmu : u 34 19 = ((m : Nat) : Int) := by rw [g6 19 (by decide)]; exact hm9
    have hcu : u 34 5 = ((c : Nat) : Int) := by rw [g6 5 (by decide)]; exact hc
    refine az_to 3 (pc2 := 48) (lv2 := [some (az_r 34), some (az_i (zx)), some (az_i (((k : Nat) : Int))), lo]) (st2 := [az_i (u 34 19), az_i (((k : Nat) : Int))]) (s2 := u) rfl ?_
    refine az_to 0 (pc2 := 48) (lv2 := [some (az_r 34), some (az_i (zx)), some (az_i (((k : Nat) : Int))), lo]) (st2 := [az_i (((m : Nat) : Int)), az_i (((k : Nat) : Int))]) (s2 := u) (by rw [show u 34 19 = ((m : Nat) : Int) from hmu]; rfl) ?_
    refine az_if2 122 51 rfl (by decide) (by first | assumption | exact ⟨by omega, by omega⟩) (by first | assumption | exact ⟨by omega, by omega⟩) (fun h1 => ?_) (fun h1 => ?_)
    · have h1 : ((m : Nat) : Int) ≤ ((k : Nat) : Int) := h1
      obtain rfl : L = [] := List.length_eq_zero_iff.mp (by omega)
      refine az_to 3 (pc2 := 127) (lv2 := [some (az_r 34), some (az_i (zx)), some (az_i (((k : Nat) : Int))), lo]) (st2 := [az_i (u 34 19), az_r 34]) (s2 := u) rfl ?_
      refine az_to 0 (pc2 := 127) (lv2 := [some (az_r 34), some (az_i (zx)), some (az_i (((k : Nat) : Int))), lo]) (st2 := [az_i (((m : Nat) : Int)), az_r 34]) (s2 := u) (by rw [show u 34 19 = ((m : Nat) : Int) from hmu]; rfl) ?_
      refine az_to 1 (pc2 := 128) (lv2 := [some (az_r 34), some (az_i (zx)), some (az_i (((k : Nat) : Int))), lo]) (st2 := [az_i (2), az_i (((m : Nat) : Int)), az_r 34]) (s2 := u) rfl ?_
      refine az_cl (m2 := am_m_X10_ends) (as := [az_r 34, az_i (((m : Nat) : Int)), az_i (2)]) (rest := []) 131 rfl rfl ⟨rfl, rfl⟩ (by omega) (zs_X10_ends_0 (s := u) (v := (((m : Nat) : Int))) (as := 2) (by omega) g60 hcu hc8) (fun v7 t3 q7 => ?_) (fun E7 t3 q7 => by cases q7.1)
      obtain ⟨o7, a5, a38, a34, ao⟩ := q7
      cases o7
      refine az_to 0 (pc2 := 131) (lv2 := [some (az_r 34), some (az_i (zx)), some (az_i (((k : Nat) : Int))), lo]) (st2 := [az_i (((m : Nat) : Int))]) (s2 := t3) rfl ?_
      refine az_retI rfl rfl ?_
      unfold zrF
      rw [show zrn S k [] = (k, (0, 0, 0, S)) from rfl]
      refine ⟨fun _ => ⟨rfl, ?_, ?_, a5, ?_, fun j j5 j6 => ?_⟩, fun w => absurd rfl w, fun i i1 i2 i3 => ?_⟩
      · rw [ao 35 (by decide) (by decide)]; exact g3
      · rw [a34 6 (by decide)]; exact g60
      · rw [a38, g5 38 (by decide) (by decide), g5 36 (by decide) (by decide)]
      · rw [a34 j j5, g6 j j6]
      · rw [ao i i1 i3, g5 i i1 i2]
    · have h1 : ¬ (((m : Nat) : Int) ≤ ((k : Nat) : Int)) := h1
      obtain ⟨x, L9, rfl⟩ : ∃ x L9, L = x :: L9 := by
        cases L with
        | nil => exact absurd g1 (by simp only [List.length_nil]; omega)
        | cons x L9 => exact ⟨x, L9, rfl⟩
      rw [List.length_cons] at g1
      have hg0 := g0 x (List.mem_cons_self ..)
      have hw0 := zry_0 g2
      refine az_to 7 (pc2 := 60) (lv2 := [some (az_r 34), some (az_i (zx)), some (az_i (((k : Nat) : Int))), lo]) (st2 := [az_i ((5 * ((k : Nat) : Int))), az_r 34]) (s2 := am_up u 34 6 (0)) rfl ?_
      have hSa : (am_up u 34 6 (0)) 35 = S := g3
      refine az_cl (m2 := am_m_X10_does) (as := [az_r 34, az_i ((5 * ((k : Nat) : Int)))]) (rest := []) 63 rfl rfl ⟨rfl, rfl⟩ (by omega) (zX10_do (s := am_up u 34 6 (0)) (c := k) (by omega) hSa g4 (by omega) (by omega) rfl (by omega) hg0 hw0.1 hw0.2) (fun v9 t1 q9 => ?_) (fun E9 t1 q9 => by cases q9.1)
      obtain ⟨o9, hu⟩ := q9
      cases o9
      have hr3 := zcm_4 S x.1 x.2
      have h46 : t1 34 6 = zth (zcm S x.1 x.2).1 (if x.1 = 12 then 1 else 2) := hu.2.1
      have hz9 : ((zcm S x.1 x.2).1 = 0 ∧ t1 34 6 = 0) ∨ ((zcm S x.1 x.2).1 = 1 ∧ t1 34 6 = 1) ∨ ((zcm S x.1 x.2).1 = 2 ∧ (t1 34 6 = 1 ∨ t1 34 6 = 2)) ∨ ((zcm S x.1 x.2).1 = 3 ∧ t1 34 6 = 9) := by
        unfold zth at h46
        split at h46
        · exact Or.inr (Or.inr (Or.inr ⟨by assumption, h46⟩))
        · split at h46
          · refine Or.inr (Or.inr (Or.inl ⟨by assumption, ?_⟩))
            rw [h46]; split
            · exact Or.inl rfl
            · exact Or.inr rfl
          · omega
      refine az_to 0 (pc2 := 63) (lv2 := [some (az_r 34), some (az_i (zx)), some (az_i (((k : Nat) : Int))), lo]) (st2 := [az_i ((if (zcm S x.1 x.2).1 = 0 then (zcm S x.1 x.2).2.1 else 0))]) (s2 := t1) rfl ?_
      refine az_to 3 (pc2 := 68) (lv2 := [some (az_r 34), some (az_i (zx)), some (az_i (((k : Nat) : Int))), some (az_i ((if (zcm S x.1 x.2).1 = 0 then (zcm S x.1 x.2).2.1 else 0)))]) (st2 := [az_i (t1 34 6)]) (s2 := t1) rfl ?_
      refine az_ifc 116 71 rfl (by decide) (by first | assumption | exact ⟨by omega, by omega⟩) (fun h2 => ?_) (fun h2 => ?_)
      · have h2 : t1 34 6 = 0 := h2
        refine az_to 2 (pc2 := 43) (lv2 := [some (az_r 34), some (az_i (zx)), some (az_i ((((k : Nat) : Int) + 1))), some (az_i ((if (zcm S x.1 x.2).1 = 0 then (zcm S x.1 x.2).2.1 else 0)))]) (st2 := []) (s2 := t1) rfl ?_
        have e : zrn S k (x :: L9) = zrn (zcm S x.1 x.2).2.2.2 (k + 1) L9 := by
          conv => lhs; unfold zrn
          rw [if_pos (by omega)]
        rw [e]
        exact ih L9.length (by rw [hm, List.length_cons]; omega) L9 (k + 1) (zcm S x.1 x.2).2.2.2 t1 _ rfl (fun y hy => g0 y (List.mem_cons_of_mem _ hy)) (by omega) (zry_s g2 (by rw [hu.2.2.2.2.2 42 (by decide) (by decide)]; rfl)) hu.1 (zIv_cm g4 (by omega) hg0.1 x.2) (fun i i1 i2 => by rw [hu.2.2.2.2.2 i i1 i2, ← g5 i i1 i2]; funext b; simp [am_up, i1]) (fun j j6 => by
          rw [← g6 j j6]
          by_cases q : j = 7 ∨ j = 8 ∨ j = 9
          · have := hu.2.2.2.1 (by omega)
            rcases q with rfl | rfl | rfl
            · rw [this.1]; rfl
            · rw [this.2.1]; rfl
            · rw [this.2.2]; rfl
          · rw [hu.2.2.2.2.1 j j6 (by omega) (by omega) (by omega)]
            show (if j = 6 then _ else u 34 j) = _
            rw [if_neg j6]) (by omega)
      · have h2 : ¬ (t1 34 6 = 0) := h2
        refine az_to 4 (pc2 := 78) (lv2 := [some (az_r 34), some (az_i (zx)), some (az_i (((k : Nat) : Int))), some (az_i ((if (zcm S x.1 x.2).1 = 0 then (zcm S x.1 x.2).2.1 else 0)))]) (st2 := [az_i (9), az_i (t1 34 6), az_r 34]) (s2 := t1) rfl ?_
        refine az_if2 85 81 rfl (by decide) (by first | assumption | exact ⟨by omega, by omega⟩) ⟨by decide, by decide⟩ (fun h3 => ?_) (fun h3 => ?_)
        · have h3 : ¬ t1 34 6 = 9 := h3
          refine az_to 2 (pc2 := 87) (lv2 := [some (az_r 34), some (az_i (zx)), some (az_i (((k : Nat) : Int))), some (az_i ((if (zcm S x.1 x.2).1 = 0 then (zcm S x.1 x.2).2.1 else 0)))]) (st2 := [az_i (((k : Nat) : Int)), az_i (0), az_r 34]) (s2 := t1) rfl ?_
          refine az_clv (v := none) (t := am_up (am_up (am_up (am_up t1 34 9 (0)) 34 10 (t1 34 8)) 34 7 (12)) 34 8 (((k : Nat) : Int))) (m2 := am_m_X10_isBehind) (as := [az_r 34, az_i (0), az_i (((k : Nat) : Int))]) (rest := []) 90 rfl rfl ⟨rfl, rfl⟩ (by omega) (zs_X10_isBehind_f (s := t1) (k := k) (by omega) ) ?_
          refine az_to 0 (pc2 := 90) (lv2 := [some (az_r 34), some (az_i (zx)), some (az_i (((k : Nat) : Int))), some (az_i ((if (zcm S x.1 x.2).1 = 0 then (zcm S x.1 x.2).2.1 else 0)))]) (st2 := []) (s2 := am_up (am_up (am_up (am_up t1 34 9 (0)) 34 10 (t1 34 8)) 34 7 (12)) 34 8 (((k : Nat) : Int))) rfl ?_
          refine az_to 6 (pc2 := 100) (lv2 := [some (az_r 34), some (az_i (zx)), some (az_i (((k : Nat) : Int))), some (az_i ((if (zcm S x.1 x.2).1 = 0 then (zcm S x.1 x.2).2.1 else 0)))]) (st2 := [az_i (0), az_r 35, az_i (0), az_r 36]) (s2 := am_up (am_up (am_up (am_up t1 34 9 (0)) 34 10 (t1 34 8)) 34 7 (12)) 34 8 (((k : Nat) : Int))) rfl ?_
          refine az_cl (m2 := am_m_X10_copies) (as := [az_r 36, az_i (0), az_r 35, az_i (0)]) (rest := []) 103 rfl rfl ⟨rfl, rfl⟩ (by omega) (zs_X10_copies_b (s := am_up (am_up (am_up (am_up t1 34 9 (0)) 34 10 (t1 34 8)) 34 7 (12)) 34 8 (((k : Nat) : Int)))  (by omega) ) (fun v8 t2 q8 => ?_) (fun E8 t2 q8 => by cases q8.1)
          obtain ⟨o8, ff, gg⟩ := q8
          cases o8
          have hb35 : t2 35 = _ := ff
          refine az_to 0 (pc2 := 103) (lv2 := [some (az_r 34), some (az_i (zx)), some (az_i (((k : Nat) : Int))), some (az_i ((if (zcm S x.1 x.2).1 = 0 then (zcm S x.1 x.2).2.1 else 0)))]) (st2 := []) (s2 := t2) rfl ?_
          refine az_to 6 (pc2 := 112) (lv2 := [some (az_r 34), some (az_i (zx)), some (az_i (((k : Nat) : Int))), some (az_i ((if (zcm S x.1 x.2).1 = 0 then (zcm S x.1 x.2).2.1 else 0)))]) (st2 := [az_i (2), az_i ((if (zcm S x.1 x.2).1 = 0 then (zcm S x.1 x.2).2.1 else 0)), az_r 34]) (s2 := am_up t2 34 6 (9)) rfl ?_
          refine az_cl (m2 := am_m_X10_ends) (as := [az_r 34, az_i ((if (zcm S x.1 x.2).1 = 0 then (zcm S x.1 x.2).2.1 else 0)), az_i (2)]) (rest := []) 115 rfl rfl ⟨rfl, rfl⟩ (by omega) (zs_X10_ends_9 (s := am_up t2 34 6 (9)) (v := ((if (zcm S x.1 x.2).1 = 0 then (zcm S x.1 x.2).2.1 else 0))) (as := 2) (by omega) rfl) (fun v7 t3 q7 => ?_) (fun E7 t3 q7 => by cases q7.1)
          obtain ⟨o7, ht3⟩ := q7
          cases o7
          refine az_to 0 (pc2 := 115) (lv2 := [some (az_r 34), some (az_i (zx)), some (az_i (((k : Nat) : Int))), some (az_i ((if (zcm S x.1 x.2).1 = 0 then (zcm S x.1 x.2).2.1 else 0)))]) (st2 := [az_i (0)]) (s2 := t3) rfl ?_
          refine az_retI rfl rfl ?_
          have e : zrn S k (x :: L9) = (k, (zcm S x.1 x.2)) := by
            conv => lhs; unfold zrn
            rw [if_neg (by omega)]
          have gz : ∀ j, t2 34 j = (am_up (am_up (am_up (am_up t1 34 9 (0)) 34 10 (t1 34 8)) 34 7 (12)) 34 8 (((k : Nat) : Int))) 34 j := fun j => by rw [gg 34 (by decide)]
          have gx : ∀ j, j ≠ 6 → j ≠ 7 → j ≠ 8 → j ≠ 9 → t1 34 j = s 34 j := fun j j6 j7 j8 j9 => by
            rw [hu.2.2.2.2.1 j j6 j7 j8 j9, ← g6 j j6]
            show (if j = 6 then _ else u 34 j) = _
            rw [if_neg j6]
          have gy : ∀ i, i ≠ 34 → i ≠ 35 → t1 i = s i := fun i i1 i2 => by
            rw [hu.2.2.2.2.2 i i1 i2, ← g5 i i1 i2]
            funext b
            simp [am_up, i1]
          unfold zrF
          rw [e, ht3]
          refine ⟨fun w => absurd (show (zcm S x.1 x.2).1 = 0 from w) (by omega), fun _ => ⟨rfl, rfl, ⟨t1 35, ?_⟩, ?_, ?_, ?_, ?_, ?_, fun q3 => ?_, fun j j6 j7 j8 j9 j10 => ?_⟩, fun i i1 i2 i3 => ?_⟩
          · show t2 35 = _
            rw [ff]
            show va_cpy (t1 36) (t1 35) 0 0 175 = _
            rw [gy 36 (by decide) (by decide)]
          · show t2 34 5 = _
            rw [gz]
            show t1 34 5 = _
            exact gx 5 (by decide) (by decide) (by decide) (by decide)
          · show t2 38 = _
            rw [gg 38 (by decide)]
            show t1 38 = _
            exact gy 38 (by decide) (by decide)
          · show t2 34 7 = _
            rw [gz]
            rfl
          · show t2 34 8 = _
            rw [gz]
            rfl
          · show t2 34 9 = (if (zcm S x.1 x.2).1 = 3 then (zcm S x.1 x.2).2.1 else 0)
            rw [gz]
            first
              | (rw [if_pos (by omega)]; exact (hu.2.2.1 (by omega)).1)
              | (rw [if_neg (by omega)]; rfl)
          · show t2 34 10 = (zcm S x.1 x.2).2.2.1
            rw [gz]
            have q3 : (zcm S x.1 x.2).1 = 3 := q3
            first
              | (exfalso; omega; done)
              | exact (hu.2.2.1 q3).2.1
          · simp only [am_up, if_true, if_neg j6]
            rw [gz]
            simp [am_up, j7, j8, j9, j10, j6]
            exact gx j j6 j7 j8 j9
          · rw [← gy i i1 i2]
            funext b
            simp only [am_up, if_neg i1]
            rw [gg i i2]
            simp [am_up, i1]
        · have h3 : t1 34 6 = 9 := Decidable.not_not.mp h3
          refine az_to 3 (pc2 := 87) (lv2 := [some (az_r 34), some (az_i (zx)), some (az_i (((k : Nat) : Int))), some (az_i ((if (zcm S x.1 x.2).1 = 0 then (zcm S x.1 x.2).2.1 else 0)))]) (st2 := [az_i (((k : Nat) : Int)), az_i (1), az_r 34]) (s2 := t1) rfl ?_
          refine az_clv (v := none) (t := am_up (am_up (am_up (am_up t1 34 9 (t1 34 7)) 34 10 (t1 34 8)) 34 7 (12)) 34 8 (((k : Nat) : Int))) (m2 := am_m_X10_isBehind) (as := [az_r 34, az_i (1), az_i (((k : Nat) : Int))]) (rest := []) 90 rfl rfl ⟨rfl, rfl⟩ (by omega) (zs_X10_isBehind_t (s := t1) (k := k) (by omega) ) ?_
          refine az_to 0 (pc2 := 90) (lv2 := [some (az_r 34), some (az_i (zx)), some (az_i (((k : Nat) : Int))), some (az_i ((if (zcm S x.1 x.2).1 = 0 then (zcm S x.1 x.2).2.1 else 0)))]) (st2 := []) (s2 := am_up (am_up (am_up (am_up t1 34 9 (t1 34 7)) 34 10 (t1 34 8)) 34 7 (12)) 34 8 (((k : Nat) : Int))) rfl ?_
          refine az_to 6 (pc2 := 100) (lv2 := [some (az_r 34), some (az_i (zx)), some (az_i (((k : Nat) : Int))), some (az_i ((if (zcm S x.1 x.2).1 = 0 then (zcm S x.1 x.2).2.1 else 0)))]) (st2 := [az_i (0), az_r 35, az_i (0), az_r 36]) (s2 := am_up (am_up (am_up (am_up t1 34 9 (t1 34 7)) 34 10 (t1 34 8)) 34 7 (12)) 34 8 (((k : Nat) : Int))) rfl ?_
          refine az_cl (m2 := am_m_X10_copies) (as := [az_r 36, az_i (0), az_r 35, az_i (0)]) (rest := []) 103 rfl rfl ⟨rfl, rfl⟩ (by omega) (zs_X10_copies_b (s := am_up (am_up (am_up (am_up t1 34 9 (t1 34 7)) 34 10 (t1 34 8)) 34 7 (12)) 34 8 (((k : Nat) : Int)))  (by omega) ) (fun v8 t2 q8 => ?_) (fun E8 t2 q8 => by cases q8.1)
          obtain ⟨o8, ff, gg⟩ := q8
          cases o8
          have hb35 : t2 35 = _ := ff
          refine az_to 0 (pc2 := 103) (lv2 := [some (az_r 34), some (az_i (zx)), some (az_i (((k : Nat) : Int))), some (az_i ((if (zcm S x.1 x.2).1 = 0 then (zcm S x.1 x.2).2.1 else 0)))]) (st2 := []) (s2 := t2) rfl ?_
          refine az_to 6 (pc2 := 112) (lv2 := [some (az_r 34), some (az_i (zx)), some (az_i (((k : Nat) : Int))), some (az_i ((if (zcm S x.1 x.2).1 = 0 then (zcm S x.1 x.2).2.1 else 0)))]) (st2 := [az_i (2), az_i ((if (zcm S x.1 x.2).1 = 0 then (zcm S x.1 x.2).2.1 else 0)), az_r 34]) (s2 := am_up t2 34 6 (9)) rfl ?_
          refine az_cl (m2 := am_m_X10_ends) (as := [az_r 34, az_i ((if (zcm S x.1 x.2).1 = 0 then (zcm S x.1 x.2).2.1 else 0)), az_i (2)]) (rest := []) 115 rfl rfl ⟨rfl, rfl⟩ (by omega) (zs_X10_ends_9 (s := am_up t2 34 6 (9)) (v := ((if (zcm S x.1 x.2).1 = 0 then (zcm S x.1 x.2).2.1 else 0))) (as := 2) (by omega) rfl) (fun v7 t3 q7 => ?_) (fun E7 t3 q7 => by cases q7.1)
          obtain ⟨o7, ht3⟩ := q7
          cases o7
          refine az_to 0 (pc2 := 115) (lv2 := [some (az_r 34), some (az_i (zx)), some (az_i (((k : Nat) : Int))), some (az_i ((if (zcm S x.1 x.2).1 = 0 then (zcm S x.1 x.2).2.1 else 0)))]) (st2 := [az_i (0)]) (s2 := t3) rfl ?_
          refine az_retI rfl rfl ?_
          have e : zrn S k (x :: L9) = (k, (zcm S x.1 x.2)) := by
            conv => lhs; unfold zrn
            rw [if_neg (by omega)]
          have gz : ∀ j, t2 34 j = (am_up (am_up (am_up (am_up t1 34 9 (t1 34 7)) 34 10 (t1 34 8)) 34 7 (12)) 34 8 (((k : Nat) : Int))) 34 j := fun j => by rw [gg 34 (by decide)]
          have gx : ∀ j, j ≠ 6 → j ≠ 7 → j ≠ 8 → j ≠ 9 → t1 34 j = s 34 j := fun j j6 j7 j8 j9 => by
            rw [hu.2.2.2.2.1 j j6 j7 j8 j9, ← g6 j j6]
            show (if j = 6 then _ else u 34 j) = _
            rw [if_neg j6]
          have gy : ∀ i, i ≠ 34 → i ≠ 35 → t1 i = s i := fun i i1 i2 => by
            rw [hu.2.2.2.2.2 i i1 i2, ← g5 i i1 i2]
            funext b
            simp [am_up, i1]
          unfold zrF
          rw [e, ht3]
          refine ⟨fun w => absurd (show (zcm S x.1 x.2).1 = 0 from w) (by omega), fun _ => ⟨rfl, rfl, ⟨t1 35, ?_⟩, ?_, ?_, ?_, ?_, ?_, fun q3 => ?_, fun j j6 j7 j8 j9 j10 => ?_⟩, fun i i1 i2 i3 => ?_⟩
          · show t2 35 = _
            rw [ff]
            show va_cpy (t1 36) (t1 35) 0 0 175 = _
            rw [gy 36 (by decide) (by decide)]
          · show t2 34 5 = _
            rw [gz]
            show t1 34 5 = _
            exact gx 5 (by decide) (by decide) (by decide) (by decide)
          · show t2 38 = _
            rw [gg 38 (by decide)]
            show t1 38 = _
            exact gy 38 (by decide) (by decide)
          · show t2 34 7 = _
            rw [gz]
            rfl
          · show t2 34 8 = _
            rw [gz]
            rfl
          · show t2 34 9 = (if (zcm S x.1 x.2).1 = 3 then (zcm S x.1 x.2).2.1 else 0)
            rw [gz]
            first
              | (rw [if_pos (by omega)]; exact (hu.2.2.1 (by omega)).1)
              | (rw [if_neg (by omega)]; rfl)
          · show t2 34 10 = (zcm S x.1 x.2).2.2.1
            rw [gz]
            have q3 : (zcm S x.1 x.2).1 = 3 := q3
            first
              | (exfalso; omega; done)
              | exact (hu.2.2.1 q3).2.1
          · simp only [am_up, if_true, if_neg j6]
            rw [gz]
            simp [am_up, j7, j8, j9, j10, j6]
            exact gx j j6 j7 j8 j9
          · rw [← gy i i1 i2]
            funext b
            simp only [am_up, if_neg i1]
            rw [gg i i2]
            simp [am_up, i1]
set_option maxRecDepth 100000 in
set_option maxHeartbeats 800000 in
theorem zs_X10_read {d : Nat} {s : az_S} (hd : 9 ≤ d) {S : zR} {h : Nat} (hS : s 35 = S) (hI : zInv S h) (hh : h ≤ 10000) {n : Nat} {T : Nat → Int} (hT0 : zTy s n T) (hh9 : h + 10 ≤ 10000) {c : Nat} (hc : s 34 5 = ((c : Nat) : Int)) (hc8 : c ≤ 8) : az_R d am_m_X10_read 0 (az_ini (am_mL am_m_X10_read) [az_r 34]) [] (s) (fun o t => zrG s t o S T n c) := by
  refine az_to 0 (pc2 := 0) (lv2 := [some (az_r 34), none, none, none]) (st2 := []) (s2 := s) rfl ?_
  refine az_to 1 (pc2 := 1) (lv2 := [some (az_r 34), none, none, none]) (st2 := [az_r 34]) (s2 := s) rfl ?_
  refine az_cl (m2 := am_m_X10_isText) (as := [az_r 34]) (rest := []) 4 rfl rfl ⟨rfl, rfl⟩ (by omega) (zs_X10_isText (s := s)  (by omega) hT0) (fun v9 t0 q9 => ?_) (fun E9 t0 q9 => by obtain ⟨u, _, _, _, w⟩ := q9; cases w.1)
  obtain ⟨u, e42, e34, eo, o9, qa, qb, q42, q34, qo⟩ := q9
  cases o9
  refine az_to 0 (pc2 := 4) (lv2 := [some (az_r 34), none, none, none]) (st2 := [az_i (az_b ((zpr T n 11 0).2.1 = true))]) (s2 := t0) rfl ?_
  refine az_to 6 (pc2 := 12) (lv2 := [some (az_r 34), some (az_i (az_b ((zpr T n 11 0).2.1 = true))), none, none]) (st2 := [az_i (az_b ((zpr T n 11 0).2.1 = true)), az_r 34]) (s2 := am_up t0 34 17 (0)) rfl ?_
  refine az_ifbn 19 15 rfl (by decide) (fun h1 => ?_) (fun h1 => ?_)
  · have h1 : (zpr T n 11 0).2.1 = true := h1
    refine az_to 2 (pc2 := 21) (lv2 := [some (az_r 34), some (az_i (az_b ((zpr T n 11 0).2.1 = true))), none, none]) (st2 := [az_i (1), az_i (0), az_r 34]) (s2 := am_up t0 34 17 (0)) rfl ?_
    refine az_clv (v := some (az_i (0))) (t := am_up (am_up t0 34 17 (0)) 34 6 (0)) (m2 := am_m_X10_isThrown) (as := [az_r 34, az_i (0), az_i (1)]) (rest := []) 24 rfl rfl ⟨rfl, rfl⟩ (by omega) (zs_X10_isThrown_f (s := am_up t0 34 17 (0)) (v := 1) (by omega) ) ?_
    refine az_to 0 (pc2 := 24) (lv2 := [some (az_r 34), some (az_i (az_b ((zpr T n 11 0).2.1 = true))), none, none]) (st2 := [az_i (0)]) (s2 := am_up (am_up t0 34 17 (0)) 34 6 (0)) rfl ?_
    refine az_ifc 37 27 rfl (by decide) ⟨by decide, by decide⟩ (fun _ => ?_) (fun h => absurd (show az_cnd _ _ _ by unfold az_cnd; decide) h)
    refine az_to 1 (pc2 := 38) (lv2 := [some (az_r 34), some (az_i (az_b ((zpr T n 11 0).2.1 = true))), none, none]) (st2 := [az_r 34]) (s2 := am_up (am_up t0 34 17 (0)) 34 6 (0)) rfl ?_
    refine az_cl (m2 := am_m_X10_keeps) (as := [az_r 34]) (rest := []) 41 rfl rfl ⟨rfl, rfl⟩ (by omega) (zs_X10_keeps (s := am_up (am_up t0 34 17 (0)) 34 6 (0))  (by omega) ) (fun v8 kp q8 => ?_) (fun E8 kp q8 => by cases q8.1)
    obtain ⟨o8, hkp⟩ := q8
    cases o8
    refine az_to 0 (pc2 := 41) (lv2 := [some (az_r 34), some (az_i (az_b ((zpr T n 11 0).2.1 = true))), none, none]) (st2 := []) (s2 := kp) rfl ?_
    refine az_to 2 (pc2 := 43) (lv2 := [some (az_r 34), some (az_i (az_b ((zpr T n 11 0).2.1 = true))), some (az_i (0)), none]) (st2 := []) (s2 := kp) rfl ?_
    have hlen := zpr_n (T := T) (n := n) (s := fun a b => if a = 22 then ((n : Nat) : Int) else T b) ⟨rfl, hT0.2.1, fun k _ => rfl, hT0.2.2.2.1, hT0.2.2.2.2⟩ 11 0 (by omega) (by assumption)
    have h60 := hT0.2.1
    have ha := qa (by assumption)
    obtain ⟨k36, k6, k34, ko⟩ := hkp
    have kk : ∀ j, j ≠ 6 → j ≠ 17 → kp 34 j = t0 34 j := fun j j6 j17 => by rw [k34 j j6]; simp [am_up, j6, j17]
    have kx : ∀ i, i ≠ 34 → i ≠ 36 → kp i = t0 i := fun i i4 i6 => by rw [ko i i4 i6]; funext b; simp [am_up, i4]
    refine az_wk (zs_X10_read_L43 (s := kp) (by omega) (c := c) (h := h) (m := (zpr T n 11 0).1.length) (zx := az_b ((zpr T n 11 0).2.1 = true)) (by omega) (by rw [kk 5 (by decide) (by decide), q34 5 (by decide) (by decide) (by decide), e34 5 (by decide) (by decide)]; exact hc) hc8 (by rw [kk 19 (by decide) (by decide), ha.1]; congr 1; omega) (by omega) _ (zpr T n 11 0).1 0 S kp _ rfl (fun y hy => zpr_g 11 0 y hy) (by omega) (fun j hj => ?_) ?_ hI (fun i i1 i2 => rfl) (fun j j6 => rfl) k6) (fun o t H => ⟨fun w => absurd w (by rw [show (zpr T n 11 0).2.1 = true from by assumption]; decide), fun _ => ⟨kp, ?_, ?_, fun j j6 j17 j18 j19 j20 => ?_, fun i i4 i6 i2 => ?_, H⟩⟩)
    · have hb := ha.2 j hj
      rw [kx 42 (by decide) (by decide)]
      rw [show 0 + j = j from by omega] at hb ⊢
      exact hb
    · rw [kx 35 (by decide) (by decide), qo 35 (by decide) (by decide), eo 35 (by decide)]; exact hS
    · rw [k36]
      show va_cpy (t0 35) (t0 36) 0 0 175 = _
      rw [qo 35 (by decide) (by decide), eo 35 (by decide), qo 36 (by decide) (by decide), eo 36 (by decide)]
    · rw [k34 17 (by decide)]; rfl
    · rw [kk j j6 j17, q34 j j18 j19 j20, e34 j j18 j19]
    · rw [kx i i4 i6, qo i i4 i2, eo i i4]
  · have h1 : ¬ ((zpr T n 11 0).2.1 = true) := h1
    refine az_to 3 (pc2 := 21) (lv2 := [some (az_r 34), some (az_i (az_b ((zpr T n 11 0).2.1 = true))), none, none]) (st2 := [az_i (1), az_i (1), az_r 34]) (s2 := am_up t0 34 17 (0)) rfl ?_
    refine az_clv (v := some (az_i (1))) (t := am_up (am_up t0 34 17 (0)) 34 6 (1)) (m2 := am_m_X10_isThrown) (as := [az_r 34, az_i (1), az_i (1)]) (rest := []) 24 rfl rfl ⟨rfl, rfl⟩ (by omega) (zs_X10_isThrown_t (s := am_up t0 34 17 (0)) (v := 1) (by omega) ) ?_
    refine az_to 0 (pc2 := 24) (lv2 := [some (az_r 34), some (az_i (az_b ((zpr T n 11 0).2.1 = true))), none, none]) (st2 := [az_i (1)]) (s2 := am_up (am_up t0 34 17 (0)) 34 6 (1)) rfl ?_
    refine az_ifc 37 27 rfl (by decide) ⟨by decide, by decide⟩ (fun h => absurd h (by unfold az_cnd; decide)) (fun _ => ?_)
    refine az_to 5 (pc2 := 36) (lv2 := [some (az_r 34), some (az_i (az_b ((zpr T n 11 0).2.1 = true))), none, none]) (st2 := [az_i (0)]) (s2 := am_up (am_up (am_up t0 34 17 (0)) 34 6 (1)) 34 11 ((am_up (am_up t0 34 17 (0)) 34 6 (1)) 34 18)) rfl ?_
    refine az_retI rfl rfl ?_
    have ef : (zpr T n 11 0).2.1 = false := by
      cases hz : (zpr T n 11 0).2.1 with
      | false => rfl
      | true => exact absurd hz (by assumption)
    refine ⟨fun _ => ⟨rfl, rfl, qb ef, rfl, fun j j6 j11 j17 j18 j19 j20 => ?_, fun i i4 i2 => ?_⟩, fun w => absurd (ef.symm.trans w) (by decide)⟩
    · simp [am_up, j6, j11, j17]
      rw [q34 j j18 j19 j20, e34 j j18 j19]
    · rw [← eo i i4, ← qo i i4 i2]
      funext b
      simp [am_up, i4]
