/-! CLASS, 17: read; written by program (wip/tools/zg/s17.py) -/
/-- the commands of a text, one behind the other: the place of the last, what became of it -/
def zrn (S : zR) (c : Nat) : List (Nat × List Int) → Nat × zQ
  | [] => (c, (0, 0, 0, S))
  | x :: L => if (zcm S x.1 x.2).1 = 0 then zrn (zcm S x.1 x.2).2.2.2 (c + 1) L else (c, zcm S x.1 x.2)
abbrev zcl (L : List (Nat × List Int)) (q : Nat) : Nat × List Int := L.getD q (0, [])
def zrw (u : az_S) (c : Nat) (L : List (Nat × List Int)) : Prop := ∀ q, q < L.length → u 27 (c + q) = (((zcl L q).1 : Nat) : Int) ∧ ∀ p, p < (zcl L q).2.length → u 29 (4 * (c + q) + p) = (zcl L q).2.getD p 0
theorem zrw_0 {u : az_S} {c : Nat} {x : Nat × List Int} {L : List (Nat × List Int)} (h : zrw u c (x :: L)) : u 27 c = ((x.1 : Nat) : Int) ∧ ∀ p, p < x.2.length → u 29 (4 * c + p) = x.2.getD p 0 := h 0 (by rw [List.length_cons]; omega)
theorem zrw_s {u t : az_S} {c : Nat} {x : Nat × List Int} {L : List (Nat × List Int)} (h : zrw u c (x :: L)) (e1 : t 27 = u 27) (e2 : t 29 = u 29) : zrw t (c + 1) L := fun q hq => by
  have h1 := h (q + 1) (by rw [List.length_cons]; omega)
  rw [e1, e2, show c + 1 + q = c + (q + 1) from by omega]
  exact h1
def zrD (s t : az_S) (o : az_O) (q c m : Nat) (r : Nat × zQ) : Prop :=
  (r.2.1 = 0 → o = .inl (some (az_i ((m : Nat) : Int))) ∧ zRel (t 3) r.2.2.2.2 ∧ t 17 1 = ((if q = 8 then 0 else q + 1 : Nat) : Int) ∧ t 17 2 = ((if c = 8 then 8 else c + 1 : Nat) : Int) ∧ t 33 = s 33) ∧
  (r.2.1 ≠ 0 → o = .inr 4 ∧ (∃ X, t 3 = va_cpy (s 19) X (q * 184) 0 184) ∧ t 17 = s 17 ∧ t 33 0 = 12 ∧ t 33 1 = ((r.1 : Nat) : Int) ∧ t 33 2 = (if r.2.1 = 3 then r.2.2.1 else 0) ∧ t 33 3 = (if r.2.1 = 3 then r.2.2.2.1 else 0)) ∧ (∀ i, i ≠ 3 → i ≠ 5 → i ≠ 17 → i ≠ 33 → t i = s i)
/-- what read of the class leaves -/
def zrE (s t : az_S) (o : az_O) (S : zR) (T : Nat → Int) (n q c : Nat) : Prop :=
  ((zpr T n 11 0).2.1 = false → o = .inr 1 ∧ t 0 10 = (zpr T n 11 0).2.2 ∧ (∀ j, j ≠ 10 → t 0 j = s 0 j) ∧ t 22 2 = 0 ∧ t 22 1 = s 22 1 ∧ (∀ i, i ≠ 0 → i ≠ 22 → i ≠ 25 → i ≠ 27 → i ≠ 29 → t i = s i)) ∧
  ((zpr T n 11 0).2.1 = true → ∃ w, w 19 = va_cpy (s 3) (s 19) 0 (q * 184) 184 ∧ w 22 2 = 0 ∧ w 22 1 = s 22 1 ∧ (∀ i, i ≠ 19 → i ≠ 22 → i ≠ 25 → i ≠ 27 → i ≠ 29 → w i = s i) ∧ zrD w t o q c (zpr T n 11 0).1.length (zrn S 0 (zpr T n 11 0).1))
set_option maxRecDepth 100000 in
set_option maxHeartbeats 800000 in
theorem zs_X4_keepCaused {d : Nat} {s : az_S} (hd : 0 ≤ d) {k : Nat} (hv : az_in (s 5 0)) : az_R d am_m_X4_keepCaused 0 (az_ini (am_mL am_m_X4_keepCaused) [az_r 33, az_i (((k : Nat) : Int)), az_r 5]) [] (s) (fun o t => o = .inl none ∧ t = am_up (am_up (am_up (am_up s 33 0 (12)) 33 1 (((k : Nat) : Int))) 33 2 (if s 5 0 = 3 then s 5 2 else 0)) 33 3 (if s 5 0 = 3 then s 5 3 else 0)) := by
  refine az_to 0 (pc2 := 0) (lv2 := [some (az_r 33), some (az_i (((k : Nat) : Int))), some (az_r 5), none]) (st2 := []) (s2 := s) rfl ?_
  refine az_to 3 (pc2 := 5) (lv2 := [some (az_r 33), some (az_i (((k : Nat) : Int))), some (az_r 5), none]) (st2 := [az_i (3), az_i (s 5 0)]) (s2 := s) rfl ?_
  refine az_if2 12 8 rfl (by decide) (by first | assumption | exact ⟨by omega, by omega⟩) ⟨by decide, by decide⟩ (fun h1 => ?_) (fun h1 => ?_)
  · have h1 : ¬ s 5 0 = 3 := h1
    refine az_to 10 (pc2 := 27) (lv2 := [some (az_r 33), some (az_i (((k : Nat) : Int))), some (az_r 5), some (az_i (0))]) (st2 := [az_i (0), az_r 33]) (s2 := am_up (am_up s 33 0 (12)) 33 1 (((k : Nat) : Int))) rfl ?_
    refine az_ifc 37 30 rfl (by decide) ⟨by decide, by decide⟩ (fun _ => ?_) (fun h => absurd (show az_cnd _ _ _ by unfold az_cnd; decide) h)
    refine az_to 4 (pc2 := 43) (lv2 := [some (az_r 33), some (az_i (((k : Nat) : Int))), some (az_r 5), some (az_i (0))]) (st2 := [az_i (0), az_r 33]) (s2 := am_up (am_up (am_up s 33 0 (12)) 33 1 (((k : Nat) : Int))) 33 2 (0)) rfl ?_
    refine az_ifc 53 46 rfl (by decide) ⟨by decide, by decide⟩ (fun _ => ?_) (fun h => absurd (show az_cnd _ _ _ by unfold az_cnd; decide) h)
    refine az_to 2 (pc2 := 57) (lv2 := [some (az_r 33), some (az_i (((k : Nat) : Int))), some (az_r 5), some (az_i (0))]) (st2 := []) (s2 := am_up (am_up (am_up (am_up s 33 0 (12)) 33 1 (((k : Nat) : Int))) 33 2 (0)) 33 3 (0)) rfl ?_
    refine az_ret0 rfl rfl ?_
    refine ⟨rfl, ?_⟩
    first
      | (rw [if_pos (by assumption), if_pos (by assumption)]; done)
      | (rw [if_pos (by assumption), if_pos (by assumption)]; rfl)
      | (rw [if_neg (by assumption), if_neg (by assumption)]; done)
      | (rw [if_neg (by assumption), if_neg (by assumption)]; rfl)
  · have h1 : s 5 0 = 3 := Decidable.not_not.mp h1
    refine az_to 11 (pc2 := 27) (lv2 := [some (az_r 33), some (az_i (((k : Nat) : Int))), some (az_r 5), some (az_i (1))]) (st2 := [az_i (1), az_r 33]) (s2 := am_up (am_up s 33 0 (12)) 33 1 (((k : Nat) : Int))) rfl ?_
    refine az_ifc 37 30 rfl (by decide) ⟨by decide, by decide⟩ (fun h => absurd h (by unfold az_cnd; decide)) (fun _ => ?_)
    refine az_to 6 (pc2 := 43) (lv2 := [some (az_r 33), some (az_i (((k : Nat) : Int))), some (az_r 5), some (az_i (1))]) (st2 := [az_i (1), az_r 33]) (s2 := am_up (am_up (am_up s 33 0 (12)) 33 1 (((k : Nat) : Int))) 33 2 ((am_up (am_up s 33 0 (12)) 33 1 (((k : Nat) : Int))) 5 2)) rfl ?_
    refine az_ifc 53 46 rfl (by decide) ⟨by decide, by decide⟩ (fun h => absurd h (by unfold az_cnd; decide)) (fun _ => ?_)
    refine az_to 4 (pc2 := 57) (lv2 := [some (az_r 33), some (az_i (((k : Nat) : Int))), some (az_r 5), some (az_i (1))]) (st2 := []) (s2 := am_up (am_up (am_up (am_up s 33 0 (12)) 33 1 (((k : Nat) : Int))) 33 2 ((am_up (am_up s 33 0 (12)) 33 1 (((k : Nat) : Int))) 5 2)) 33 3 ((am_up (am_up (am_up s 33 0 (12)) 33 1 (((k : Nat) : Int))) 33 2 ((am_up (am_up s 33 0 (12)) 33 1 (((k : Nat) : Int))) 5 2)) 5 3)) rfl ?_
    refine az_ret0 rfl rfl ?_
    refine ⟨rfl, ?_⟩
    first
      | (rw [if_pos (by assumption), if_pos (by assumption)]; done)
      | (rw [if_pos (by assumption), if_pos (by assumption)]; rfl)
      | (rw [if_neg (by assumption), if_neg (by assumption)]; done)
      | (rw [if_neg (by assumption), if_neg (by assumption)]; rfl)
set_option maxRecDepth 100000 in
set_option maxHeartbeats 800000 in
theorem zs_X9_read_L54 {d : Nat} {s : az_S} (hd : 9 ≤ d) {q c h m : Nat} {zx : Int} (hh9 : h + 10 ≤ 10000) (hp : s 17 1 = ((q : Nat) : Int)) (hq : q ≤ 8) (hc : s 17 2 = ((c : Nat) : Int)) (hc8 : c ≤ 8) (hm9 : s 25 3 = ((m : Nat) : Int)) (hm10 : m ≤ 10)  : ∀ (mq : Nat) (L : List (Nat × List Int)) (k : Nat) (S : zR) (u : az_S) (lo : Option az_V), mq = L.length → (∀ x, x ∈ L → zgc x.1 x.2) → (k + L.length = m) → (zrw u k L) → (zRel (u 3) S) → (zInv S (h + k)) → (∀ i, i ≠ 3 → i ≠ 5 → u i = s i) → az_R d am_m_X9_read 54 [some (az_r 0), some (az_i (zx)), some (az_i (((k : Nat) : Int))), lo] [] (u) (fun o t => zrD s t o q c m (zrn S k L)) := by
  intro mq
  induction mq using Nat.strongRecOn with
  | _ mq ih =>
    intro L k S u lo hm g0 g1 g2 g3 g4 g5
    have hmu : u 25 3 = ((m : Nat) : Int) := by rw [g5 25 (by decide) (by decide)]; exact hm9
    have hpu : u 17 1 = ((q : Nat) : Int) := by rw [g5 17 (by decide) (by decide)]; exact hp
    have hcu : u 17 2 = ((c : Nat) : Int) := by rw [g5 17 (by decide) (by decide)]; exact hc
    refine az_to 3 (pc2 := 59) (lv2 := [some (az_r 0), some (az_i (zx)), some (az_i (((k : Nat) : Int))), lo]) (st2 := [az_r 25, az_i (((k : Nat) : Int))]) (s2 := u) rfl ?_
    refine az_clv (v := some (az_i (((m : Nat) : Int)))) (t := u) (m2 := am_m_X1_count) (as := [az_r 25]) (rest := [az_i (((k : Nat) : Int))]) 62 rfl rfl ⟨rfl, rfl⟩ (by omega) (zs_X1_count (s := u)  (by omega) hmu) ?_
    refine az_to 0 (pc2 := 62) (lv2 := [some (az_r 0), some (az_i (zx)), some (az_i (((k : Nat) : Int))), lo]) (st2 := [az_i (((m : Nat) : Int)), az_i (((k : Nat) : Int))]) (s2 := u) rfl ?_
    refine az_if2 122 65 rfl (by decide) (by first | assumption | exact ⟨by omega, by omega⟩) (by first | assumption | exact ⟨by omega, by omega⟩) (fun h1 => ?_) (fun h1 => ?_)
    · have h1 : ((m : Nat) : Int) ≤ ((k : Nat) : Int) := h1
      obtain rfl : L = [] := List.length_eq_zero_iff.mp (by omega)
      refine az_to 2 (pc2 := 126) (lv2 := [some (az_r 0), some (az_i (zx)), some (az_i (((k : Nat) : Int))), lo]) (st2 := [az_r 17]) (s2 := u) rfl ?_
      refine az_clv (v := none) (t := am_up (am_up u 17 1 ((if q = 8 then 0 else q + 1 : Nat) : Int)) 17 2 ((if c = 8 then 8 else c + 1 : Nat) : Int)) (m2 := am_m_X2_keepPrepared) (as := [az_r 17]) (rest := []) 129 rfl rfl ⟨rfl, rfl⟩ (by omega) (zs_X2_keepPrepared (s := u)  (by omega) hpu hq hcu hc8) ?_
      refine az_to 0 (pc2 := 129) (lv2 := [some (az_r 0), some (az_i (zx)), some (az_i (((k : Nat) : Int))), lo]) (st2 := []) (s2 := am_up (am_up u 17 1 ((if q = 8 then 0 else q + 1 : Nat) : Int)) 17 2 ((if c = 8 then 8 else c + 1 : Nat) : Int)) rfl ?_
      refine az_to 2 (pc2 := 133) (lv2 := [some (az_r 0), some (az_i (zx)), some (az_i (((k : Nat) : Int))), lo]) (st2 := [az_r 25]) (s2 := am_up (am_up u 17 1 ((if q = 8 then 0 else q + 1 : Nat) : Int)) 17 2 ((if c = 8 then 8 else c + 1 : Nat) : Int)) rfl ?_
      refine az_clv (v := some (az_i (((m : Nat) : Int)))) (t := am_up (am_up u 17 1 ((if q = 8 then 0 else q + 1 : Nat) : Int)) 17 2 ((if c = 8 then 8 else c + 1 : Nat) : Int)) (m2 := am_m_X1_count) (as := [az_r 25]) (rest := []) 136 rfl rfl ⟨rfl, rfl⟩ (by omega) (zs_X1_count (s := am_up (am_up u 17 1 ((if q = 8 then 0 else q + 1 : Nat) : Int)) 17 2 ((if c = 8 then 8 else c + 1 : Nat) : Int))  (by omega) hmu) ?_
      refine az_to 0 (pc2 := 136) (lv2 := [some (az_r 0), some (az_i (zx)), some (az_i (((k : Nat) : Int))), lo]) (st2 := [az_i (((m : Nat) : Int))]) (s2 := am_up (am_up u 17 1 ((if q = 8 then 0 else q + 1 : Nat) : Int)) 17 2 ((if c = 8 then 8 else c + 1 : Nat) : Int)) rfl ?_
      refine az_retI rfl rfl ?_
      unfold zrD
      rw [show zrn S k [] = (k, (0, 0, 0, S)) from rfl]
      refine ⟨fun _ => ⟨rfl, g3, rfl, rfl, ?_⟩, fun w => absurd rfl w, fun i i1 i2 i3 i4 => ?_⟩
      · exact g5 33 (by decide) (by decide)
      · rw [← g5 i i1 i2]
        funext b
        simp [am_up, i3]
    · have h1 : ¬ (((m : Nat) : Int) ≤ ((k : Nat) : Int)) := h1
      obtain ⟨x, L9, rfl⟩ : ∃ x L9, L = x :: L9 := by
        cases L with
        | nil => exact absurd g1 (by simp only [List.length_nil]; omega)
        | cons x L9 => exact ⟨x, L9, rfl⟩
      rw [List.length_cons] at g1
      have hg0 := g0 x (List.mem_cons_self ..)
      have hw0 := zrw_0 g2
      refine az_to 5 (pc2 := 74) (lv2 := [some (az_r 0), some (az_i (zx)), some (az_i (((k : Nat) : Int))), lo]) (st2 := [az_i (((k : Nat) : Int)), az_r 25, az_r 4]) (s2 := u) rfl ?_
      refine az_cl (m2 := am_m_X0_carryOut) (as := [az_r 4, az_r 25, az_i (((k : Nat) : Int))]) (rest := []) 77 rfl rfl ⟨rfl, rfl⟩ (by omega) (zX0_co (s := u) (c := k) (by omega) g3 g4 (by omega) (by omega) (by omega) hg0 hw0.1 hw0.2) (fun v9 t1 q9 => ?_) (fun E9 t1 q9 => by cases q9.1)
      obtain ⟨o9, hu⟩ := q9
      cases o9
      have hp1 : t1 17 1 = ((q : Nat) : Int) := by rw [hu.2.2.2.2 17 (by decide) (by decide), g5 17 (by decide) (by decide)]; exact hp
      have hr3 := zcm_4 S x.1 x.2
      refine az_to 0 (pc2 := 77) (lv2 := [some (az_r 0), some (az_i (zx)), some (az_i (((k : Nat) : Int))), lo]) (st2 := [az_r 5]) (s2 := t1) rfl ?_
      refine az_to 3 (pc2 := 82) (lv2 := [some (az_r 0), some (az_i (zx)), some (az_i (((k : Nat) : Int))), some (az_r 5)]) (st2 := [az_i (t1 5 0)]) (s2 := t1) rfl ?_
      refine az_to 0 (pc2 := 82) (lv2 := [some (az_r 0), some (az_i (zx)), some (az_i (((k : Nat) : Int))), some (az_r 5)]) (st2 := [az_i ((((zcm S x.1 x.2).1 : Nat) : Int))]) (s2 := t1) (by rw [show t1 5 0 = (((zcm S x.1 x.2).1 : Nat) : Int) from hu.2.1]; rfl) ?_
      refine az_ifc 116 85 rfl (by decide) (by first | assumption | exact ⟨by omega, by omega⟩) (fun h2 => ?_) (fun h2 => ?_)
      · have h2 : (((zcm S x.1 x.2).1 : Nat) : Int) = 0 := h2
        refine az_to 2 (pc2 := 54) (lv2 := [some (az_r 0), some (az_i (zx)), some (az_i ((((k : Nat) : Int) + 1))), some (az_r 5)]) (st2 := []) (s2 := t1) rfl ?_
        have e : zrn S k (x :: L9) = zrn (zcm S x.1 x.2).2.2.2 (k + 1) L9 := by
          conv => lhs; unfold zrn
          rw [if_pos (by omega)]
        rw [e]
        exact ih L9.length (by rw [hm, List.length_cons]; omega) L9 (k + 1) (zcm S x.1 x.2).2.2.2 t1 (some (az_r 5)) rfl (fun y hy => g0 y (List.mem_cons_of_mem _ hy)) (by omega) (zrw_s g2 (hu.2.2.2.2 27 (by decide) (by decide)) (hu.2.2.2.2 29 (by decide) (by decide))) hu.1 (zIv_cm g4 (by omega) hg0.1 x.2) (fun i i1 i2 => by rw [hu.2.2.2.2 i i1 i2]; exact g5 i i1 i2)
      · have h2 : ¬ ((((zcm S x.1 x.2).1 : Nat) : Int) = 0) := h2
        refine az_to 4 (pc2 := 93) (lv2 := [some (az_r 0), some (az_i (zx)), some (az_i (((k : Nat) : Int))), some (az_r 5)]) (st2 := [az_r 1, az_r 17]) (s2 := t1) rfl ?_
        refine az_clv (v := none) (t := am_ur t1 3 (va_cpy (t1 19) (t1 3) (q * 184) 0 184)) (m2 := am_m_X2_takeBack) (as := [az_r 17, az_r 1]) (rest := []) 96 rfl rfl ⟨rfl, rfl⟩ (by omega) (zs_X2_takeBack (s := t1)  (by omega) hp1 hq) ?_
        refine az_to 0 (pc2 := 96) (lv2 := [some (az_r 0), some (az_i (zx)), some (az_i (((k : Nat) : Int))), some (az_r 5)]) (st2 := []) (s2 := am_ur t1 3 (va_cpy (t1 19) (t1 3) (q * 184) 0 184)) rfl ?_
        refine az_to 4 (pc2 := 102) (lv2 := [some (az_r 0), some (az_i (zx)), some (az_i (((k : Nat) : Int))), some (az_r 5)]) (st2 := [az_r 5, az_i (((k : Nat) : Int)), az_r 33]) (s2 := am_ur t1 3 (va_cpy (t1 19) (t1 3) (q * 184) 0 184)) rfl ?_
        have hk9 : az_in ((am_ur t1 3 (va_cpy (t1 19) (t1 3) (q * 184) 0 184)) 5 0) := by
          show az_in (t1 5 0)
          rw [hu.2.1]; exact ⟨by omega, by omega⟩
        refine az_cl (m2 := am_m_X4_keepCaused) (as := [az_r 33, az_i (((k : Nat) : Int)), az_r 5]) (rest := []) 105 rfl rfl ⟨rfl, rfl⟩ (by omega) (zs_X4_keepCaused (s := am_ur t1 3 (va_cpy (t1 19) (t1 3) (q * 184) 0 184)) (k := k) (by omega) hk9) (fun v8 t2 q8 => ?_) (fun E8 t2 q8 => by cases q8.1)
        obtain ⟨o8, ht2⟩ := q8
        cases o8
        refine az_to 0 (pc2 := 105) (lv2 := [some (az_r 0), some (az_i (zx)), some (az_i (((k : Nat) : Int))), some (az_r 5)]) (st2 := []) (s2 := t2) rfl ?_
        refine az_thr (E := 4) rfl rfl rfl ?_
        have e : zrn S k (x :: L9) = (k, (zcm S x.1 x.2)) := by
          conv => lhs; unfold zrn
          rw [if_neg (by omega)]
        unfold zrD
        rw [e, ht2]
        refine ⟨fun w => absurd (show (zcm S x.1 x.2).1 = 0 from w) (by omega), fun _ => ⟨rfl, ⟨t1 3, ?_⟩, ?_, rfl, rfl, ?_, ?_⟩, fun i i1 i2 i3 i4 => ?_⟩
        · show va_cpy (t1 19) (t1 3) (q * 184) 0 184 = _
          rw [hu.2.2.2.2 19 (by decide) (by decide), g5 19 (by decide) (by decide)]
        · show t1 17 = _
          rw [hu.2.2.2.2 17 (by decide) (by decide), g5 17 (by decide) (by decide)]
        · show (if t1 5 0 = 3 then t1 5 2 else 0) = _
          rw [hu.2.1]
          by_cases q3 : (zcm S x.1 x.2).1 = 3
          · rw [if_pos (by omega), if_pos q3]; exact (hu.2.2.2.1 q3).1
          · rw [if_neg (by omega), if_neg q3]
        · show (if t1 5 0 = 3 then t1 5 3 else 0) = _
          rw [hu.2.1]
          by_cases q3 : (zcm S x.1 x.2).1 = 3
          · rw [if_pos (by omega), if_pos q3]; exact (hu.2.2.2.1 q3).2
          · rw [if_neg (by omega), if_neg q3]
        · rw [← g5 i i1 i2, ← hu.2.2.2.2 i i1 i2]
          funext b
          simp [am_up, am_ur, i1, i4]
set_option maxRecDepth 100000 in
set_option maxHeartbeats 800000 in
theorem zs_X9_read {d : Nat} {s : az_S} (hd : 9 ≤ d) {S : zR} {h : Nat} (hR : zRel (s 3) S) (hI : zInv S h) (hh : h ≤ 10000) {n : Nat} {T : Nat → Int} (hT : zTx s n T) (hh9 : h + 10 ≤ 10000) {q c : Nat} (hp : s 17 1 = ((q : Nat) : Int)) (hq : q ≤ 8) (hc : s 17 2 = ((c : Nat) : Int)) (hc8 : c ≤ 8) : az_R d am_m_X9_read 0 (az_ini (am_mL am_m_X9_read) [az_r 0]) [] (s) (fun o t => zrE s t o S T n q c) := by
  refine az_to 0 (pc2 := 0) (lv2 := [some (az_r 0), none, none, none]) (st2 := []) (s2 := s) rfl ?_
  refine az_to 2 (pc2 := 4) (lv2 := [some (az_r 0), none, none, none]) (st2 := [az_r 25]) (s2 := s) rfl ?_
  refine az_cl (m2 := am_m_X1_parse) (as := [az_r 25]) (rest := []) 7 rfl rfl ⟨rfl, rfl⟩ (by omega) (zs_X1_parse (s := s)  (by omega) hT) (fun v9 t0 q9 => ?_) (fun E9 t0 q9 => by obtain ⟨u, _, _, _, _, w⟩ := q9; cases w.1)
  obtain ⟨u, e27, e29, e25, eo, o9, qa, qb, q27, q29, q25, qo⟩ := q9
  cases o9
  have hp0 : t0 17 1 = ((q : Nat) : Int) := by rw [qo 17 (by decide) (by decide) (by decide), eo 17 (by decide)]; exact hp
  have hc0 : t0 17 2 = ((c : Nat) : Int) := by rw [qo 17 (by decide) (by decide) (by decide), eo 17 (by decide)]; exact hc
  refine az_to 0 (pc2 := 7) (lv2 := [some (az_r 0), none, none, none]) (st2 := [az_i (az_b ((zpr T n 11 0).2.1 = true))]) (s2 := t0) rfl ?_
  refine az_to 3 (pc2 := 12) (lv2 := [some (az_r 0), some (az_i (az_b ((zpr T n 11 0).2.1 = true))), none, none]) (st2 := [az_r 22]) (s2 := t0) rfl ?_
  refine az_clv (v := none) (t := am_up t0 22 2 (0)) (m2 := am_m_X3_clear) (as := [az_r 22]) (rest := []) 15 rfl rfl ⟨rfl, rfl⟩ (by omega) (zs_X3_clear_22 (s := t0)  (by omega) ) ?_
  refine az_to 0 (pc2 := 15) (lv2 := [some (az_r 0), some (az_i (az_b ((zpr T n 11 0).2.1 = true))), none, none]) (st2 := []) (s2 := am_up t0 22 2 (0)) rfl ?_
  refine az_to 1 (pc2 := 16) (lv2 := [some (az_r 0), some (az_i (az_b ((zpr T n 11 0).2.1 = true))), none, none]) (st2 := [az_i (az_b ((zpr T n 11 0).2.1 = true))]) (s2 := am_up t0 22 2 (0)) rfl ?_
  refine az_ifbn 41 19 rfl (by decide) (fun h1 => ?_) (fun h1 => ?_)
  · have h1 : (zpr T n 11 0).2.1 = true := h1
    refine az_to 4 (pc2 := 49) (lv2 := [some (az_r 0), some (az_i (az_b ((zpr T n 11 0).2.1 = true))), none, none]) (st2 := [az_r 1, az_r 17]) (s2 := am_up t0 22 2 (0)) rfl ?_
    refine az_clv (v := none) (t := am_ur (am_up t0 22 2 (0)) 19 (va_cpy ((am_up t0 22 2 (0)) 3) ((am_up t0 22 2 (0)) 19) 0 (q * 184) 184)) (m2 := am_m_X2_prepare) (as := [az_r 17, az_r 1]) (rest := []) 52 rfl rfl ⟨rfl, rfl⟩ (by omega) (zs_X2_prepare (s := am_up t0 22 2 (0))  (by omega) hp0 hq) ?_
    refine az_to 0 (pc2 := 52) (lv2 := [some (az_r 0), some (az_i (az_b ((zpr T n 11 0).2.1 = true))), none, none]) (st2 := []) (s2 := am_ur (am_up t0 22 2 (0)) 19 (va_cpy ((am_up t0 22 2 (0)) 3) ((am_up t0 22 2 (0)) 19) 0 (q * 184) 184)) rfl ?_
    refine az_to 2 (pc2 := 54) (lv2 := [some (az_r 0), some (az_i (az_b ((zpr T n 11 0).2.1 = true))), some (az_i (0)), none]) (st2 := []) (s2 := am_ur (am_up t0 22 2 (0)) 19 (va_cpy ((am_up t0 22 2 (0)) 3) ((am_up t0 22 2 (0)) 19) 0 (q * 184) 184)) rfl ?_
    have hlen := zpr_n hT 11 0 (by omega) (by assumption)
    have h60 := hT.2.1
    have ha := qa (by assumption)
    refine az_wk (zs_X9_read_L54 (s := am_ur (am_up t0 22 2 (0)) 19 (va_cpy ((am_up t0 22 2 (0)) 3) ((am_up t0 22 2 (0)) 19) 0 (q * 184) 184)) (by omega) (q := q) (c := c) (h := h) (m := (zpr T n 11 0).1.length) (zx := az_b ((zpr T n 11 0).2.1 = true)) (by omega) hp0 hq hc0 hc8 (by show t0 25 3 = _; rw [ha.1]; congr 1; omega) (by omega) _ (zpr T n 11 0).1 0 S (am_ur (am_up t0 22 2 (0)) 19 (va_cpy ((am_up t0 22 2 (0)) 3) ((am_up t0 22 2 (0)) 19) 0 (q * 184) 184)) none rfl (fun y hy => zpr_g 11 0 y hy) (by omega) (fun j hj => ?_) ?_ hI (fun i i1 i2 => rfl)) (fun o t H => ⟨fun w => absurd w (by rw [show (zpr T n 11 0).2.1 = true from by assumption]; decide), fun _ => ⟨am_ur (am_up t0 22 2 (0)) 19 (va_cpy ((am_up t0 22 2 (0)) 3) ((am_up t0 22 2 (0)) 19) 0 (q * 184) 184), ?_, rfl, ?_, fun i i9 i2 i5 i7 i29 => ?_, H⟩⟩)
    · have hb := ha.2 j hj
      rw [show 0 + j = j from by omega] at hb ⊢
      exact hb
    · show zRel (t0 3) S
      rw [qo 3 (by decide) (by decide) (by decide), eo 3 (by decide)]; exact hR
    · show va_cpy (t0 3) (t0 19) 0 (q * 184) 184 = _
      rw [qo 3 (by decide) (by decide) (by decide), eo 3 (by decide), qo 19 (by decide) (by decide) (by decide), eo 19 (by decide)]
    · show t0 22 1 = _
      rw [qo 22 (by decide) (by decide) (by decide), eo 22 (by decide)]
    · rw [← eo i i5, ← qo i i5 i7 i29]
      funext b
      simp [am_up, am_ur, i9, i2]
  · have h1 : ¬ ((zpr T n 11 0).2.1 = true) := h1
    refine az_to 3 (pc2 := 24) (lv2 := [some (az_r 0), some (az_i (az_b ((zpr T n 11 0).2.1 = true))), none, none]) (st2 := [az_r 25, az_r 0]) (s2 := am_up t0 22 2 (0)) rfl ?_
    refine az_clv (v := some (az_i ((am_up t0 22 2 (0)) 25 5))) (t := am_up t0 22 2 (0)) (m2 := am_m_X1_errorAt) (as := [az_r 25]) (rest := [az_r 0]) 27 rfl rfl ⟨rfl, rfl⟩ (by omega) (zs_X1_errorAt (s := am_up t0 22 2 (0))  (by omega) ) ?_
    refine az_to 0 (pc2 := 27) (lv2 := [some (az_r 0), some (az_i (az_b ((zpr T n 11 0).2.1 = true))), none, none]) (st2 := [az_i ((am_up t0 22 2 (0)) 25 5), az_r 0]) (s2 := am_up t0 22 2 (0)) rfl ?_
    refine az_to 1 (pc2 := 30) (lv2 := [some (az_r 0), some (az_i (az_b ((zpr T n 11 0).2.1 = true))), none, none]) (st2 := []) (s2 := am_up (am_up t0 22 2 (0)) 0 10 ((am_up t0 22 2 (0)) 25 5)) rfl ?_
    refine az_thr (E := 1) rfl rfl rfl ?_
    have ef : (zpr T n 11 0).2.1 = false := by
      cases hz : (zpr T n 11 0).2.1 with
      | false => rfl
      | true => exact absurd hz (by assumption)
    refine ⟨fun _ => ⟨rfl, qb ef, fun j hj => ?_, rfl, ?_, fun i i0 i2 i5 i7 i9 => ?_⟩, fun w => absurd (ef.symm.trans w) (by decide)⟩
    · show (if j = 10 then _ else (am_up t0 22 2 0) 0 j) = s 0 j
      rw [if_neg hj]
      show t0 0 j = _
      rw [qo 0 (by decide) (by decide) (by decide), eo 0 (by decide)]
    · show t0 22 1 = _
      rw [qo 22 (by decide) (by decide) (by decide), eo 22 (by decide)]
    · rw [← eo i i5, ← qo i i5 i7 i9]
      funext b
      simp [am_up, i0, i2]

