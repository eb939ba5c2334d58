/-! THE LAW, 1: rows alike, the row of all that is seen; written by program (wip/p47tools/l61.py) -/
theorem bz_same {L : Nat} {xs : Nat → Int32} {tx : Nat → Option String} {d : Nat} {mt : am_M1} {pc : Nat} {lv : az_L} {st : List az_V} {e : List Nat} {s : az_S} {N M : Nat} {Q : az_O → List Nat → az_S → Prop} {off : Int} {x : Int} {len : Nat} (pc2 : Nat) (hf : am_find pc (am_c mt) = some (.if_icmp .eq off, len)) (hz : 0 ≤ (pc : Int) + off ∧ am_tgt pc off = pc2) (H : bz_R L xs tx d mt pc2 lv st e s N M Q) : bz_R L xs tx d mt pc lv (.inl x :: .inl x :: st) e s N M Q := by
  refine bz_step (pc2 := pc2) (fun n => am_1s hf ?_) H
  show am_br (am_cond .eq (Int32.ofInt x) (Int32.ofInt x)) pc off _ _ = _
  rw [show am_cond .eq (Int32.ofInt x) (Int32.ofInt x) = true from by unfold am_cond; simp]
  unfold am_br
  rw [if_pos hz.1, hz.2]
  rfl

set_option maxRecDepth 100000 in
theorem lb_areAlike_L {L : Nat} {xs : Nat → Int32} {tx : Nat → Option String} {d : Nat} {s : az_S} {e : List Nat} {N M i j : Nat} (hi : e[i]? = some 180) (hj : e[j]? = some 180) (ha : ∀ k, k < 180 → s (34 + i) k = s (34 + j) k) : ∀ (mq : Nat) (k : Nat), mq = 180 - k → k ≤ 180 → bz_R L xs tx d am_m_L_areAlike 2 [some (az_r (34 + i)), some (az_r (34 + j)), some (az_i ((k : Nat) : Int))] [] e s N M (fun o e2 t => o = .inl (some (az_i 1)) ∧ e2 = e ∧ t = s) := by
  intro mq
  induction mq using Nat.strongRecOn with
  | _ mq ih =>
    intro k hm hk
    subst hm
    refine bz_to 2 (pc2 := 4) (lv2 := [some (az_r (34 + i)), some (az_r (34 + j)), some (az_i (((k : Nat) : Int)))]) (st2 := [az_r (34 + i), az_i (((k : Nat) : Int))]) (s2 := s) (rfl) ?_
    refine bz_al 5 rfl hi rfl ?_
    refine bz_to 0 (pc2 := 5) (lv2 := [some (az_r (34 + i)), some (az_r (34 + j)), some (az_i (((k : Nat) : Int)))]) (st2 := [az_i (180), az_i (((k : Nat) : Int))]) (s2 := s) (rfl) ?_
    refine bz_if2 25 8 rfl (by decide) (by first | assumption | exact ⟨by omega, by omega⟩) ⟨by decide, by decide⟩ (fun h1 => ?_) (fun h1 => ?_)
    · have h1 : 180 ≤ ((k : Nat) : Int) := h1
      refine bz_to 1 (pc2 := 26) (lv2 := [some (az_r (34 + i)), some (az_r (34 + j)), some (az_i (((k : Nat) : Int)))]) (st2 := [az_i (1)]) (s2 := s) (rfl) ?_
      have : k = 180 := by omega
      refine bz_retB rfl rfl (Or.inr rfl) ⟨rfl, rfl, rfl⟩
    · have h1 : ¬ (180 ≤ ((k : Nat) : Int)) := h1
      refine bz_to 2 (pc2 := 10) (lv2 := [some (az_r (34 + i)), some (az_r (34 + j)), some (az_i (((k : Nat) : Int)))]) (st2 := [az_i (((k : Nat) : Int)), az_r (34 + i)]) (s2 := s) (rfl) ?_
      refine bz_ld 11 rfl hi (by constructor <;> omega) ⟨by decide, rfl⟩ ?_
      refine bz_to 0 (pc2 := 11) (lv2 := [some (az_r (34 + i)), some (az_r (34 + j)), some (az_i (((k : Nat) : Int)))]) (st2 := [az_i (s (34 + i) k)]) (s2 := s) (rfl) ?_
      refine bz_to 0 (pc2 := 11) (lv2 := [some (az_r (34 + i)), some (az_r (34 + j)), some (az_i (((k : Nat) : Int)))]) (st2 := [az_i ((s (34 + i)) k)]) (s2 := s) (rfl) ?_
      refine bz_to 2 (pc2 := 13) (lv2 := [some (az_r (34 + i)), some (az_r (34 + j)), some (az_i (((k : Nat) : Int)))]) (st2 := [az_i (((k : Nat) : Int)), az_r (34 + j), az_i ((s (34 + i)) k)]) (s2 := s) (rfl) ?_
      refine bz_ld 14 rfl hj (by constructor <;> omega) ⟨by decide, rfl⟩ ?_
      refine bz_to 0 (pc2 := 14) (lv2 := [some (az_r (34 + i)), some (az_r (34 + j)), some (az_i (((k : Nat) : Int)))]) (st2 := [az_i (s (34 + j) k), az_i ((s (34 + i)) k)]) (s2 := s) (rfl) ?_
      refine bz_to 0 (pc2 := 14) (lv2 := [some (az_r (34 + i)), some (az_r (34 + j)), some (az_i (((k : Nat) : Int)))]) (st2 := [az_i ((s (34 + j)) k), az_i ((s (34 + i)) k)]) (s2 := s) (rfl) ?_
      have e1 : s (34 + j) k = s (34 + i) k := (ha k (by omega)).symm
      refine bz_to 0 (pc2 := 14) (lv2 := [some (az_r (34 + i)), some (az_r (34 + j)), some (az_i (((k : Nat) : Int)))]) (st2 := [az_i (s (34 + i) k), az_i (s (34 + i) k)]) (s2 := s) (by rw [e1]; rfl) ?_
      refine bz_same 19 rfl (by decide) ?_
      refine bz_to 2 (pc2 := 2) (lv2 := [some (az_r (34 + i)), some (az_r (34 + j)), some (az_i ((((k : Nat) : Int) + 1)))]) (st2 := []) (s2 := s) (rfl) ?_
      exact ih (180 - (k + 1)) (by omega) (k + 1) rfl (by omega)
set_option maxRecDepth 100000 in
theorem lb_areAlike {L : Nat} {xs : Nat → Int32} {tx : Nat → Option String} {d : Nat} {s : az_S} {e : List Nat} {N M i j : Nat} (hi : e[i]? = some 180) (hj : e[j]? = some 180) (ha : ∀ k, k < 180 → s (34 + i) k = s (34 + j) k) : bz_R L xs tx d am_m_L_areAlike 0 (az_ini (am_mL am_m_L_areAlike) [az_r (34 + i), az_r (34 + j)]) [] e s N M (fun o e2 t => o = .inl (some (az_i 1)) ∧ e2 = e ∧ t = s) := by
  refine bz_to 0 (pc2 := 0) (lv2 := [some (az_r (34 + i)), some (az_r (34 + j)), none]) (st2 := []) (s2 := s) (rfl) ?_
  refine bz_to 2 (pc2 := 2) (lv2 := [some (az_r (34 + i)), some (az_r (34 + j)), some (az_i (0))]) (st2 := []) (s2 := s) (rfl) ?_
  exact lb_areAlike_L hi hj ha 180 0 rfl (by omega)
/-- what is seen of a world: accounts, bridges, trolls, goats, as far as they are written -/
def zse1 (S : zR) (m1 m2 m3 m4 : Nat) (i : Nat) : Int :=
  if i < m1 then zlA S 0 ((i : Nat) : Int) else if 14 ≤ i ∧ i < 14 + m2 then zlB S (((i - 14) / 9 : Nat) : Int) (((i - 14) % 9 : Nat) : Int) else if 106 ≤ i ∧ i < 106 + m3 then zlT S (((i - 106) / 4 : Nat) : Int) (((i - 106) % 4 : Nat) : Int) else if 132 ≤ i ∧ i < 132 + m4 then zlG S (((i - 132) / 6 : Nat) : Int) (((i - 132) % 6 : Nat) : Int) else 0
def zse (S : zR) : Nat → Int := zse1 S 13 (9 * zn S 0) (4 * zn S 1) (6 * zn S 2)
theorem zlA_c {S : zR} {c : Nat} {w : Int} (h : w < 14) : zlA S c w = zlA S 0 w := by
  by_cases q : 0 ≤ w
  · have hw : w = 0 ∨ w = 1 ∨ w = 2 ∨ w = 3 ∨ w = 4 ∨ w = 5 ∨ w = 6 ∨ w = 7 ∨ w = 8 ∨ w = 9 ∨ w = 10 ∨ w = 11 ∨ w = 12 ∨ w = 13 := by omega
    rcases hw with rfl | rfl | rfl | rfl | rfl | rfl | rfl | rfl | rfl | rfl | rfl | rfl | rfl | rfl <;> rfl
  · unfold zlA zq_ac
    rw [if_pos (by omega), if_pos (by omega)]
theorem zse1_0 (S : zR) : zse1 S 0 0 0 0 = fun _ => 0 := by
  funext i
  unfold zse1
  rw [if_neg (by omega), if_neg (by omega), if_neg (by omega), if_neg (by omega)]
theorem zse1_a {S : zR} {s : az_S} {r c k : Nat} (h : s r = zse1 S k 0 0 0) (hk : k < 13) : (am_up s r k (zlA S c ((k : Nat) : Int))) r = zse1 S (k + 1) 0 0 0 := by
  rw [am_up_row, h, zlA_c (by omega)]
  funext i
  unfold zse1
  by_cases q : i = k
  · subst q
    rw [if_pos rfl, if_pos (by omega)]
  · rw [if_neg q]
    by_cases q2 : i < k
    · rw [if_pos q2, if_pos (by omega)]
    · rw [if_neg q2, if_neg (show ¬ i < k + 1 by omega)]
theorem zse1_b {S : zR} {s : az_S} {r k w : Nat} (h : s r = zse1 S 13 (9 * k + w) 0 0) (hw : w < 9) : (am_up s r (14 + 9 * k + w) (zlB S ((k : Nat) : Int) ((w : Nat) : Int))) r = zse1 S 13 (9 * k + (w + 1)) 0 0 := by
  rw [am_up_row, h]
  funext i
  unfold zse1
  by_cases q : i = 14 + 9 * k + w
  · subst q
    rw [if_pos rfl, if_neg (by omega), if_pos (by omega), show (14 + 9 * k + w - 14) / 9 = k from by omega, show (14 + 9 * k + w - 14) % 9 = w from by omega]
  · rw [if_neg q]
    by_cases q2 : i < 13
    · rw [if_pos q2, if_pos q2]
    · rw [if_neg q2, if_neg q2]
      by_cases q3 : 14 ≤ i ∧ i < 14 + (9 * k + w)
      · rw [if_pos q3, if_pos (by omega)]
      · rw [if_neg q3, if_neg (show ¬ (14 ≤ i ∧ i < 14 + (9 * k + (w + 1))) by omega)]
theorem zse1_t {S : zR} {s : az_S} {r k w n : Nat} (h : s r = zse1 S 13 n (4 * k + w) 0) (hw : w < 4) (hn : n ≤ 90) : (am_up s r (106 + 4 * k + w) (zlT S ((k : Nat) : Int) ((w : Nat) : Int))) r = zse1 S 13 n (4 * k + (w + 1)) 0 := by
  rw [am_up_row, h]
  funext i
  unfold zse1
  by_cases q : i = 106 + 4 * k + w
  · subst q
    rw [if_pos rfl, if_neg (by omega), if_neg (by omega), if_pos (by omega), show (106 + 4 * k + w - 106) / 4 = k from by omega, show (106 + 4 * k + w - 106) % 4 = w from by omega]
  · rw [if_neg q]
    by_cases q2 : i < 13
    · rw [if_pos q2, if_pos q2]
    · rw [if_neg q2, if_neg q2]
      by_cases q4 : 14 ≤ i ∧ i < 14 + n
      · rw [if_pos q4, if_pos q4]
      · rw [if_neg q4, if_neg q4]
        by_cases q3 : 106 ≤ i ∧ i < 106 + (4 * k + w)
        · rw [if_pos q3, if_pos (by omega)]
        · rw [if_neg q3, if_neg (show ¬ (106 ≤ i ∧ i < 106 + (4 * k + (w + 1))) by omega)]
theorem zse1_g {S : zR} {s : az_S} {r k w n m : Nat} (h : s r = zse1 S 13 n m (6 * k + w)) (hw : w < 6) (hn : n ≤ 90) (hm : m ≤ 24) : (am_up s r (132 + 6 * k + w) (zlG S ((k : Nat) : Int) ((w : Nat) : Int))) r = zse1 S 13 n m (6 * k + (w + 1)) := by
  rw [am_up_row, h]
  funext i
  unfold zse1
  by_cases q : i = 132 + 6 * k + w
  · subst q
    rw [if_pos rfl, if_neg (by omega), if_neg (by omega), if_neg (by omega), if_pos (by omega), show (132 + 6 * k + w - 132) / 6 = k from by omega, show (132 + 6 * k + w - 132) % 6 = w from by omega]
  · rw [if_neg q]
    by_cases q2 : i < 13
    · rw [if_pos q2, if_pos q2]
    · rw [if_neg q2, if_neg q2]
      by_cases q4 : 14 ≤ i ∧ i < 14 + n
      · rw [if_pos q4, if_pos q4]
      · rw [if_neg q4, if_neg q4]
        by_cases q5 : 106 ≤ i ∧ i < 106 + m
        · rw [if_pos q5, if_pos q5]
        · rw [if_neg q5, if_neg q5]
          by_cases q3 : 132 ≤ i ∧ i < 132 + (6 * k + w)
          · rw [if_pos q3, if_pos (by omega)]
          · rw [if_neg q3, if_neg (show ¬ (132 ≤ i ∧ i < 132 + (6 * k + (w + 1))) by omega)]
set_option maxRecDepth 100000 in
set_option maxHeartbeats 1600000 in
theorem lb_seen_I135 {L : Nat} {xs : Nat → Int32} {tx : Nat → Option String} (htx : ∀ i t, am_sx[i]? = some t → tx i = some t) {d : Nat} (hd : 14 ≤ d) {s : az_S} {S : zR} {h c : Nat} {G : Nat → zR} (H : zkS s S h c G) (hh : h ≤ 10000) {e : List Nat} {N M : Nat} (hk9 : (e ++ [180])[e.length]? = some 180) : ∀ (mq k w : Nat), mq = 7 * (zn S 2 - k) - w → k < zn S 2 → w ≤ 6 → ∀ {u : az_S}, zKx s u (34 + e.length) → u (34 + e.length) = zse1 S 13 (9 * zn S 0) (4 * zn S 1) (6 * k + w) → bz_R L xs tx d am_m_L_seen 135 [some (az_r 0), some (az_r (34 + e.length)), some (az_i ((k : Nat) : Int)), some (az_i ((w : Nat) : Int))] [] (e ++ [180]) u N M (fun o e2 t => o = .inl (some (az_r (34 + e.length))) ∧ e2 = e ++ [180] ∧ zKx s t (34 + e.length) ∧ t (34 + e.length) = zse S) := by
  have hn := zn_le (zkS_R H).2.1
  intro mq
  induction mq using Nat.strongRecOn with
  | _ mq ih =>
    intro k w hm hkn hw u K0 hr
    subst hm
    refine bz_to 2 (pc2 := 138) (lv2 := [some (az_r (0)), some (az_r (34 + e.length)), some (az_i (((k : Nat) : Int))), some (az_i (((w : Nat) : Int)))]) (st2 := [az_i (6), az_i (((w : Nat) : Int))]) (s2 := u) (rfl) ?_
    refine bz_if2 165 141 rfl (by decide) (by first | assumption | exact ⟨by omega, by omega⟩) ⟨by decide, by decide⟩ (fun h1 => ?_) (fun h1 => ?_)
    · have h1 : 6 ≤ ((w : Nat) : Int) := h1
      refine bz_to 2 (pc2 := 124) (lv2 := [some (az_r (0)), some (az_r (34 + e.length)), some (az_i ((((k : Nat) : Int) + 1))), some (az_i (((w : Nat) : Int)))]) (st2 := []) (s2 := u) (rfl) ?_
      have z1 : w = 6 := by omega
      subst z1
      have r2 : u (34 + e.length) = zse1 S 13 (9 * zn S 0) (4 * zn S 1) (6 * (k + 1)) := hr
      refine bz_to 0 (pc2 := 124) (lv2 := [some (az_r (0)), some (az_r (34 + e.length)), some (az_i ((((k : Nat) : Int) + 1))), some (az_i (6))]) (st2 := []) (s2 := u) (rfl) ?_
      refine bz_to 3 (pc2 := 127) (lv2 := [some (az_r (0)), some (az_r (34 + e.length)), some (az_i ((((k : Nat) : Int) + 1))), some (az_i (6))]) (st2 := [az_i (2), az_r (0), az_i ((((k : Nat) : Int) + 1))]) (s2 := u) (rfl) ?_
      refine bz_q (v := zlA S c 2) (m2 := am_m_X9_account) (as := [az_r (0), az_i (2)]) (rest := [az_i ((((k : Nat) : Int) + 1))]) htx 130 rfl rfl rfl (by omega) (lk_account (zkS_x H K0) hh (by omega) (by constructor <;> omega)) (fun t3 q4 => ?_)
      have K5 := zKx_q K0 q4
      have r6 : t3 (34 + e.length) = zse1 S 13 (9 * zn S 0) (4 * zn S 1) (6 * (k + 1)) := (q4.2 _ (by omega)).trans r2
      refine bz_to 0 (pc2 := 130) (lv2 := [some (az_r (0)), some (az_r (34 + e.length)), some (az_i ((((k : Nat) : Int) + 1))), some (az_i (6))]) (st2 := [az_i (zlA S c 2), az_i ((((k : Nat) : Int) + 1))]) (s2 := t3) (rfl) ?_
      refine bz_to 0 (pc2 := 130) (lv2 := [some (az_r (0)), some (az_r (34 + e.length)), some (az_i ((((k : Nat) : Int) + 1))), some (az_i (6))]) (st2 := [az_i (((zn S 2 : Nat) : Int)), az_i ((((k : Nat) : Int) + 1))]) (s2 := t3) (rfl) ?_
      refine bz_if2 171 133 rfl (by decide) (by first | assumption | exact ⟨by omega, by omega⟩) (by first | assumption | exact ⟨by omega, by omega⟩) (fun h7 => ?_) (fun h7 => ?_)
      · have h7 : ((zn S 2 : Nat) : Int) ≤ (((k : Nat) : Int) + 1) := h7
        refine bz_to 1 (pc2 := 172) (lv2 := [some (az_r (0)), some (az_r (34 + e.length)), some (az_i ((((k : Nat) : Int) + 1))), some (az_i (6))]) (st2 := [az_r (34 + e.length)]) (s2 := t3) (rfl) ?_
        have z8 : k + 1 = zn S 2 := by omega
        refine bz_retA rfl rfl (Or.inr ⟨_, rfl⟩) ⟨rfl, rfl, K5, ?_⟩
        rw [r6, z8]
        rfl
      · have h7 : ¬ (((zn S 2 : Nat) : Int) ≤ (((k : Nat) : Int) + 1)) := h7
        refine bz_to 2 (pc2 := 135) (lv2 := [some (az_r (0)), some (az_r (34 + e.length)), some (az_i ((((k : Nat) : Int) + 1))), some (az_i (0))]) (st2 := []) (s2 := t3) (rfl) ?_
        exact ih _ (by omega) (k + 1) 0 rfl (by omega) (by omega) K5 (by rw [r6]; rfl)
    · have h1 : ¬ (6 ≤ ((w : Nat) : Int)) := h1
      refine bz_to 11 (pc2 := 155) (lv2 := [some (az_r (0)), some (az_r (34 + e.length)), some (az_i (((k : Nat) : Int))), some (az_i (((w : Nat) : Int)))]) (st2 := [az_i (((w : Nat) : Int)), az_i (((k : Nat) : Int)), az_r (0), az_i (((132 + (6 * ((k : Nat) : Int))) + ((w : Nat) : Int))), az_r (34 + e.length)]) (s2 := u) (rfl) ?_
      refine bz_q (v := zlG S ((k : Nat) : Int) ((w : Nat) : Int)) (m2 := am_m_X9_goatOf) (as := [az_r (0), az_i (((k : Nat) : Int)), az_i (((w : Nat) : Int))]) (rest := [az_i (((132 + (6 * ((k : Nat) : Int))) + ((w : Nat) : Int))), az_r (34 + e.length)]) htx 158 rfl rfl rfl (by omega) (lk_goatOf (zkS_x H K0) hh (by omega) (by constructor <;> omega) (by constructor <;> omega)) (fun t9 q10 => ?_)
      have K11 := zKx_q K0 q10
      have r12 : t9 (34 + e.length) = zse1 S 13 (9 * zn S 0) (4 * zn S 1) (6 * k + w) := (q10.2 _ (by omega)).trans hr
      refine bz_to 0 (pc2 := 158) (lv2 := [some (az_r (0)), some (az_r (34 + e.length)), some (az_i (((k : Nat) : Int))), some (az_i (((w : Nat) : Int)))]) (st2 := [az_i (zlG S ((k : Nat) : Int) ((w : Nat) : Int)), az_i (((132 + (6 * ((k : Nat) : Int))) + ((w : Nat) : Int))), az_r (34 + e.length)]) (s2 := t9) (rfl) ?_
      refine bz_st 159 rfl hk9 (by constructor <;> omega) ⟨by decide, rfl⟩ ?_
      have K13 := zKx_up (i := 34 + e.length) (j := ((132 + (6 * k)) + w)) (v := zlG S ((k : Nat) : Int) ((w : Nat) : Int)) K11 (Nat.le_refl _) (by omega)
      have r14 := zse1_g r12 (w := w) (by omega) (by omega) (by omega)
      refine bz_to 0 (pc2 := 159) (lv2 := [some (az_r (0)), some (az_r (34 + e.length)), some (az_i (((k : Nat) : Int))), some (az_i (((w : Nat) : Int)))]) (st2 := []) (s2 := am_up t9 (34 + e.length) ((132 + (6 * k)) + w) (zlG S ((k : Nat) : Int) ((w : Nat) : Int))) (rfl) ?_
      refine bz_to 2 (pc2 := 135) (lv2 := [some (az_r (0)), some (az_r (34 + e.length)), some (az_i (((k : Nat) : Int))), some (az_i ((((w : Nat) : Int) + 1)))]) (st2 := []) (s2 := am_up t9 (34 + e.length) ((132 + (6 * k)) + w) (zlG S ((k : Nat) : Int) ((w : Nat) : Int))) (rfl) ?_
      exact ih _ (by omega) k (w + 1) rfl hkn (by omega) K13 r14
set_option maxRecDepth 100000 in
set_option maxHeartbeats 1600000 in
theorem lb_seen_I89 {L : Nat} {xs : Nat → Int32} {tx : Nat → Option String} (htx : ∀ i t, am_sx[i]? = some t → tx i = some t) {d : Nat} (hd : 14 ≤ d) {s : az_S} {S : zR} {h c : Nat} {G : Nat → zR} (H : zkS s S h c G) (hh : h ≤ 10000) {e : List Nat} {N M : Nat} (hk9 : (e ++ [180])[e.length]? = some 180) : ∀ (mq k w : Nat), mq = 5 * (zn S 1 - k) - w → k < zn S 1 → w ≤ 4 → ∀ {u : az_S}, zKx s u (34 + e.length) → u (34 + e.length) = zse1 S 13 (9 * zn S 0) (4 * k + w) 0 → bz_R L xs tx d am_m_L_seen 89 [some (az_r 0), some (az_r (34 + e.length)), some (az_i ((k : Nat) : Int)), some (az_i ((w : Nat) : Int))] [] (e ++ [180]) u N M (fun o e2 t => o = .inl (some (az_r (34 + e.length))) ∧ e2 = e ++ [180] ∧ zKx s t (34 + e.length) ∧ t (34 + e.length) = zse S) := by
  have hn := zn_le (zkS_R H).2.1
  intro mq
  induction mq using Nat.strongRecOn with
  | _ mq ih =>
    intro k w hm hkn hw u K0 hr
    subst hm
    refine bz_to 2 (pc2 := 91) (lv2 := [some (az_r (0)), some (az_r (34 + e.length)), some (az_i (((k : Nat) : Int))), some (az_i (((w : Nat) : Int)))]) (st2 := [az_i (4), az_i (((w : Nat) : Int))]) (s2 := u) (rfl) ?_
    refine bz_if2 116 94 rfl (by decide) (by first | assumption | exact ⟨by omega, by omega⟩) ⟨by decide, by decide⟩ (fun h1 => ?_) (fun h1 => ?_)
    · have h1 : 4 ≤ ((w : Nat) : Int) := h1
      refine bz_to 2 (pc2 := 78) (lv2 := [some (az_r (0)), some (az_r (34 + e.length)), some (az_i ((((k : Nat) : Int) + 1))), some (az_i (((w : Nat) : Int)))]) (st2 := []) (s2 := u) (rfl) ?_
      have z15 : w = 4 := by omega
      subst z15
      have r16 : u (34 + e.length) = zse1 S 13 (9 * zn S 0) (4 * (k + 1)) 0 := hr
      refine bz_to 0 (pc2 := 78) (lv2 := [some (az_r (0)), some (az_r (34 + e.length)), some (az_i ((((k : Nat) : Int) + 1))), some (az_i (4))]) (st2 := []) (s2 := u) (rfl) ?_
      refine bz_to 3 (pc2 := 81) (lv2 := [some (az_r (0)), some (az_r (34 + e.length)), some (az_i ((((k : Nat) : Int) + 1))), some (az_i (4))]) (st2 := [az_i (1), az_r (0), az_i ((((k : Nat) : Int) + 1))]) (s2 := u) (rfl) ?_
      refine bz_q (v := zlA S c 1) (m2 := am_m_X9_account) (as := [az_r (0), az_i (1)]) (rest := [az_i ((((k : Nat) : Int) + 1))]) htx 84 rfl rfl rfl (by omega) (lk_account (zkS_x H K0) hh (by omega) (by constructor <;> omega)) (fun t17 q18 => ?_)
      have K19 := zKx_q K0 q18
      have r20 : t17 (34 + e.length) = zse1 S 13 (9 * zn S 0) (4 * (k + 1)) 0 := (q18.2 _ (by omega)).trans r16
      refine bz_to 0 (pc2 := 84) (lv2 := [some (az_r (0)), some (az_r (34 + e.length)), some (az_i ((((k : Nat) : Int) + 1))), some (az_i (4))]) (st2 := [az_i (zlA S c 1), az_i ((((k : Nat) : Int) + 1))]) (s2 := t17) (rfl) ?_
      refine bz_to 0 (pc2 := 84) (lv2 := [some (az_r (0)), some (az_r (34 + e.length)), some (az_i ((((k : Nat) : Int) + 1))), some (az_i (4))]) (st2 := [az_i (((zn S 1 : Nat) : Int)), az_i ((((k : Nat) : Int) + 1))]) (s2 := t17) (rfl) ?_
      refine bz_if2 122 87 rfl (by decide) (by first | assumption | exact ⟨by omega, by omega⟩) (by first | assumption | exact ⟨by omega, by omega⟩) (fun h21 => ?_) (fun h21 => ?_)
      · have h21 : ((zn S 1 : Nat) : Int) ≤ (((k : Nat) : Int) + 1) := h21
        refine bz_to 2 (pc2 := 124) (lv2 := [some (az_r (0)), some (az_r (34 + e.length)), some (az_i (0)), some (az_i (4))]) (st2 := []) (s2 := t17) (rfl) ?_
        have z22 : k + 1 = zn S 1 := by omega
        have r23 : t17 (34 + e.length) = zse1 S 13 (9 * zn S 0) (4 * zn S 1) (0) := by rw [r20, z22]
        refine bz_to 3 (pc2 := 127) (lv2 := [some (az_r (0)), some (az_r (34 + e.length)), some (az_i (0)), some (az_i (4))]) (st2 := [az_i (2), az_r (0), az_i (0)]) (s2 := t17) (rfl) ?_
        refine bz_q (v := zlA S c 2) (m2 := am_m_X9_account) (as := [az_r (0), az_i (2)]) (rest := [az_i (0)]) htx 130 rfl rfl rfl (by omega) (lk_account (zkS_x H K19) hh (by omega) (by constructor <;> omega)) (fun t24 q25 => ?_)
        have K26 := zKx_q K19 q25
        have r27 : t24 (34 + e.length) = zse1 S 13 (9 * zn S 0) (4 * zn S 1) (0) := (q25.2 _ (by omega)).trans r23
        refine bz_to 0 (pc2 := 130) (lv2 := [some (az_r (0)), some (az_r (34 + e.length)), some (az_i (0)), some (az_i (4))]) (st2 := [az_i (zlA S c 2), az_i (0)]) (s2 := t24) (rfl) ?_
        refine bz_to 0 (pc2 := 130) (lv2 := [some (az_r (0)), some (az_r (34 + e.length)), some (az_i (0)), some (az_i (4))]) (st2 := [az_i (((zn S 2 : Nat) : Int)), az_i (0)]) (s2 := t24) (rfl) ?_
        refine bz_if2 171 133 rfl (by decide) ⟨by decide, by decide⟩ (by first | assumption | exact ⟨by omega, by omega⟩) (fun h28 => ?_) (fun h28 => ?_)
        · have h28 : ((zn S 2 : Nat) : Int) ≤ 0 := h28
          refine bz_to 1 (pc2 := 172) (lv2 := [some (az_r (0)), some (az_r (34 + e.length)), some (az_i (0)), some (az_i (4))]) (st2 := [az_r (34 + e.length)]) (s2 := t24) (rfl) ?_
          have z29 : 0 = zn S 2 := by omega
          refine bz_retA rfl rfl (Or.inr ⟨_, rfl⟩) ⟨rfl, rfl, K26, ?_⟩
          rw [r27, zse, ← z29]
        · have h28 : ¬ (((zn S 2 : Nat) : Int) ≤ 0) := h28
          refine bz_to 2 (pc2 := 135) (lv2 := [some (az_r (0)), some (az_r (34 + e.length)), some (az_i (0)), some (az_i (0))]) (st2 := []) (s2 := t24) (rfl) ?_
          exact lb_seen_I135 htx hd H hh hk9 _ 0 0 rfl (by omega) (by omega) K26 (by rw [r27])
      · have h21 : ¬ (((zn S 1 : Nat) : Int) ≤ (((k : Nat) : Int) + 1)) := h21
        refine bz_to 2 (pc2 := 89) (lv2 := [some (az_r (0)), some (az_r (34 + e.length)), some (az_i ((((k : Nat) : Int) + 1))), some (az_i (0))]) (st2 := []) (s2 := t17) (rfl) ?_
        exact ih _ (by omega) (k + 1) 0 rfl (by omega) (by omega) K19 (by rw [r20]; rfl)
    · have h1 : ¬ (4 ≤ ((w : Nat) : Int)) := h1
      refine bz_to 11 (pc2 := 106) (lv2 := [some (az_r (0)), some (az_r (34 + e.length)), some (az_i (((k : Nat) : Int))), some (az_i (((w : Nat) : Int)))]) (st2 := [az_i (((w : Nat) : Int)), az_i (((k : Nat) : Int)), az_r (0), az_i (((106 + (4 * ((k : Nat) : Int))) + ((w : Nat) : Int))), az_r (34 + e.length)]) (s2 := u) (rfl) ?_
      refine bz_q (v := zlT S ((k : Nat) : Int) ((w : Nat) : Int)) (m2 := am_m_X9_trollOf) (as := [az_r (0), az_i (((k : Nat) : Int)), az_i (((w : Nat) : Int))]) (rest := [az_i (((106 + (4 * ((k : Nat) : Int))) + ((w : Nat) : Int))), az_r (34 + e.length)]) htx 109 rfl rfl rfl (by omega) (lk_trollOf (zkS_x H K0) hh (by omega) (by constructor <;> omega) (by constructor <;> omega)) (fun t30 q31 => ?_)
      have K32 := zKx_q K0 q31
      have r33 : t30 (34 + e.length) = zse1 S 13 (9 * zn S 0) (4 * k + w) 0 := (q31.2 _ (by omega)).trans hr
      refine bz_to 0 (pc2 := 109) (lv2 := [some (az_r (0)), some (az_r (34 + e.length)), some (az_i (((k : Nat) : Int))), some (az_i (((w : Nat) : Int)))]) (st2 := [az_i (zlT S ((k : Nat) : Int) ((w : Nat) : Int)), az_i (((106 + (4 * ((k : Nat) : Int))) + ((w : Nat) : Int))), az_r (34 + e.length)]) (s2 := t30) (rfl) ?_
      refine bz_st 110 rfl hk9 (by constructor <;> omega) ⟨by decide, rfl⟩ ?_
      have K34 := zKx_up (i := 34 + e.length) (j := ((106 + (4 * k)) + w)) (v := zlT S ((k : Nat) : Int) ((w : Nat) : Int)) K32 (Nat.le_refl _) (by omega)
      have r35 := zse1_t r33 (w := w) (by omega) (by omega)
      refine bz_to 0 (pc2 := 110) (lv2 := [some (az_r (0)), some (az_r (34 + e.length)), some (az_i (((k : Nat) : Int))), some (az_i (((w : Nat) : Int)))]) (st2 := []) (s2 := am_up t30 (34 + e.length) ((106 + (4 * k)) + w) (zlT S ((k : Nat) : Int) ((w : Nat) : Int))) (rfl) ?_
      refine bz_to 2 (pc2 := 89) (lv2 := [some (az_r (0)), some (az_r (34 + e.length)), some (az_i (((k : Nat) : Int))), some (az_i ((((w : Nat) : Int) + 1)))]) (st2 := []) (s2 := am_up t30 (34 + e.length) ((106 + (4 * k)) + w) (zlT S ((k : Nat) : Int) ((w : Nat) : Int))) (rfl) ?_
      exact ih _ (by omega) k (w + 1) rfl hkn (by omega) K34 r35
set_option maxRecDepth 100000 in
set_option maxHeartbeats 1600000 in
theorem lb_seen_I41 {L : Nat} {xs : Nat → Int32} {tx : Nat → Option String} (htx : ∀ i t, am_sx[i]? = some t → tx i = some t) {d : Nat} (hd : 14 ≤ d) {s : az_S} {S : zR} {h c : Nat} {G : Nat → zR} (H : zkS s S h c G) (hh : h ≤ 10000) {e : List Nat} {N M : Nat} (hk9 : (e ++ [180])[e.length]? = some 180) : ∀ (mq k w : Nat), mq = 10 * (zn S 0 - k) - w → k < zn S 0 → w ≤ 9 → ∀ {u : az_S}, zKx s u (34 + e.length) → u (34 + e.length) = zse1 S 13 (9 * k + w) 0 0 → bz_R L xs tx d am_m_L_seen 41 [some (az_r 0), some (az_r (34 + e.length)), some (az_i ((k : Nat) : Int)), some (az_i ((w : Nat) : Int))] [] (e ++ [180]) u N M (fun o e2 t => o = .inl (some (az_r (34 + e.length))) ∧ e2 = e ++ [180] ∧ zKx s t (34 + e.length) ∧ t (34 + e.length) = zse S) := by
  have hn := zn_le (zkS_R H).2.1
  intro mq
  induction mq using Nat.strongRecOn with
  | _ mq ih =>
    intro k w hm hkn hw u K0 hr
    subst hm
    refine bz_to 2 (pc2 := 44) (lv2 := [some (az_r (0)), some (az_r (34 + e.length)), some (az_i (((k : Nat) : Int))), some (az_i (((w : Nat) : Int)))]) (st2 := [az_i (9), az_i (((w : Nat) : Int))]) (s2 := u) (rfl) ?_
    refine bz_if2 70 47 rfl (by decide) (by first | assumption | exact ⟨by omega, by omega⟩) ⟨by decide, by decide⟩ (fun h1 => ?_) (fun h1 => ?_)
    · have h1 : 9 ≤ ((w : Nat) : Int) := h1
      refine bz_to 2 (pc2 := 30) (lv2 := [some (az_r (0)), some (az_r (34 + e.length)), some (az_i ((((k : Nat) : Int) + 1))), some (az_i (((w : Nat) : Int)))]) (st2 := []) (s2 := u) (rfl) ?_
      have z36 : w = 9 := by omega
      subst z36
      have r37 : u (34 + e.length) = zse1 S 13 (9 * (k + 1)) 0 0 := hr
      refine bz_to 0 (pc2 := 30) (lv2 := [some (az_r (0)), some (az_r (34 + e.length)), some (az_i ((((k : Nat) : Int) + 1))), some (az_i (9))]) (st2 := []) (s2 := u) (rfl) ?_
      refine bz_to 3 (pc2 := 33) (lv2 := [some (az_r (0)), some (az_r (34 + e.length)), some (az_i ((((k : Nat) : Int) + 1))), some (az_i (9))]) (st2 := [az_i (0), az_r (0), az_i ((((k : Nat) : Int) + 1))]) (s2 := u) (rfl) ?_
      refine bz_q (v := zlA S c 0) (m2 := am_m_X9_account) (as := [az_r (0), az_i (0)]) (rest := [az_i ((((k : Nat) : Int) + 1))]) htx 36 rfl rfl rfl (by omega) (lk_account (zkS_x H K0) hh (by omega) (by constructor <;> omega)) (fun t38 q39 => ?_)
      have K40 := zKx_q K0 q39
      have r41 : t38 (34 + e.length) = zse1 S 13 (9 * (k + 1)) 0 0 := (q39.2 _ (by omega)).trans r37
      refine bz_to 0 (pc2 := 36) (lv2 := [some (az_r (0)), some (az_r (34 + e.length)), some (az_i ((((k : Nat) : Int) + 1))), some (az_i (9))]) (st2 := [az_i (zlA S c 0), az_i ((((k : Nat) : Int) + 1))]) (s2 := t38) (rfl) ?_
      refine bz_to 0 (pc2 := 36) (lv2 := [some (az_r (0)), some (az_r (34 + e.length)), some (az_i ((((k : Nat) : Int) + 1))), some (az_i (9))]) (st2 := [az_i (((zn S 0 : Nat) : Int)), az_i ((((k : Nat) : Int) + 1))]) (s2 := t38) (rfl) ?_
      refine bz_if2 76 39 rfl (by decide) (by first | assumption | exact ⟨by omega, by omega⟩) (by first | assumption | exact ⟨by omega, by omega⟩) (fun h42 => ?_) (fun h42 => ?_)
      · have h42 : ((zn S 0 : Nat) : Int) ≤ (((k : Nat) : Int) + 1) := h42
        refine bz_to 2 (pc2 := 78) (lv2 := [some (az_r (0)), some (az_r (34 + e.length)), some (az_i (0)), some (az_i (9))]) (st2 := []) (s2 := t38) (rfl) ?_
        have z43 : k + 1 = zn S 0 := by omega
        have r44 : t38 (34 + e.length) = zse1 S 13 (9 * zn S 0) (0) 0 := by rw [r41, z43]
        refine bz_to 3 (pc2 := 81) (lv2 := [some (az_r (0)), some (az_r (34 + e.length)), some (az_i (0)), some (az_i (9))]) (st2 := [az_i (1), az_r (0), az_i (0)]) (s2 := t38) (rfl) ?_
        refine bz_q (v := zlA S c 1) (m2 := am_m_X9_account) (as := [az_r (0), az_i (1)]) (rest := [az_i (0)]) htx 84 rfl rfl rfl (by omega) (lk_account (zkS_x H K40) hh (by omega) (by constructor <;> omega)) (fun t45 q46 => ?_)
        have K47 := zKx_q K40 q46
        have r48 : t45 (34 + e.length) = zse1 S 13 (9 * zn S 0) (0) 0 := (q46.2 _ (by omega)).trans r44
        refine bz_to 0 (pc2 := 84) (lv2 := [some (az_r (0)), some (az_r (34 + e.length)), some (az_i (0)), some (az_i (9))]) (st2 := [az_i (zlA S c 1), az_i (0)]) (s2 := t45) (rfl) ?_
        refine bz_to 0 (pc2 := 84) (lv2 := [some (az_r (0)), some (az_r (34 + e.length)), some (az_i (0)), some (az_i (9))]) (st2 := [az_i (((zn S 1 : Nat) : Int)), az_i (0)]) (s2 := t45) (rfl) ?_
        refine bz_if2 122 87 rfl (by decide) ⟨by decide, by decide⟩ (by first | assumption | exact ⟨by omega, by omega⟩) (fun h49 => ?_) (fun h49 => ?_)
        · have h49 : ((zn S 1 : Nat) : Int) ≤ 0 := h49
          refine bz_to 2 (pc2 := 124) (lv2 := [some (az_r (0)), some (az_r (34 + e.length)), some (az_i (0)), some (az_i (9))]) (st2 := []) (s2 := t45) (rfl) ?_
          have z51 : 0 = zn S 1 := by omega
          have r50 : t45 (34 + e.length) = zse1 S 13 (9 * zn S 0) (4 * zn S 1) (0) := by rw [r48, ← z51]
          refine bz_to 3 (pc2 := 127) (lv2 := [some (az_r (0)), some (az_r (34 + e.length)), some (az_i (0)), some (az_i (9))]) (st2 := [az_i (2), az_r (0), az_i (0)]) (s2 := t45) (rfl) ?_
          refine bz_q (v := zlA S c 2) (m2 := am_m_X9_account) (as := [az_r (0), az_i (2)]) (rest := [az_i (0)]) htx 130 rfl rfl rfl (by omega) (lk_account (zkS_x H K47) hh (by omega) (by constructor <;> omega)) (fun t52 q53 => ?_)
          have K54 := zKx_q K47 q53
          have r55 : t52 (34 + e.length) = zse1 S 13 (9 * zn S 0) (4 * zn S 1) (0) := (q53.2 _ (by omega)).trans r50
          refine bz_to 0 (pc2 := 130) (lv2 := [some (az_r (0)), some (az_r (34 + e.length)), some (az_i (0)), some (az_i (9))]) (st2 := [az_i (zlA S c 2), az_i (0)]) (s2 := t52) (rfl) ?_
          refine bz_to 0 (pc2 := 130) (lv2 := [some (az_r (0)), some (az_r (34 + e.length)), some (az_i (0)), some (az_i (9))]) (st2 := [az_i (((zn S 2 : Nat) : Int)), az_i (0)]) (s2 := t52) (rfl) ?_
          refine bz_if2 171 133 rfl (by decide) ⟨by decide, by decide⟩ (by first | assumption | exact ⟨by omega, by omega⟩) (fun h56 => ?_) (fun h56 => ?_)
          · have h56 : ((zn S 2 : Nat) : Int) ≤ 0 := h56
            refine bz_to 1 (pc2 := 172) (lv2 := [some (az_r (0)), some (az_r (34 + e.length)), some (az_i (0)), some (az_i (9))]) (st2 := [az_r (34 + e.length)]) (s2 := t52) (rfl) ?_
            have z57 : 0 = zn S 2 := by omega
            refine bz_retA rfl rfl (Or.inr ⟨_, rfl⟩) ⟨rfl, rfl, K54, ?_⟩
            rw [r55, zse, ← z57]
          · have h56 : ¬ (((zn S 2 : Nat) : Int) ≤ 0) := h56
            refine bz_to 2 (pc2 := 135) (lv2 := [some (az_r (0)), some (az_r (34 + e.length)), some (az_i (0)), some (az_i (0))]) (st2 := []) (s2 := t52) (rfl) ?_
            exact lb_seen_I135 htx hd H hh hk9 _ 0 0 rfl (by omega) (by omega) K54 (by rw [r55])
        · have h49 : ¬ (((zn S 1 : Nat) : Int) ≤ 0) := h49
          refine bz_to 2 (pc2 := 89) (lv2 := [some (az_r (0)), some (az_r (34 + e.length)), some (az_i (0)), some (az_i (0))]) (st2 := []) (s2 := t45) (rfl) ?_
          exact lb_seen_I89 htx hd H hh hk9 _ 0 0 rfl (by omega) (by omega) K47 (by rw [r48])
      · have h42 : ¬ (((zn S 0 : Nat) : Int) ≤ (((k : Nat) : Int) + 1)) := h42
        refine bz_to 2 (pc2 := 41) (lv2 := [some (az_r (0)), some (az_r (34 + e.length)), some (az_i ((((k : Nat) : Int) + 1))), some (az_i (0))]) (st2 := []) (s2 := t38) (rfl) ?_
        exact ih _ (by omega) (k + 1) 0 rfl (by omega) (by omega) K40 (by rw [r41]; rfl)
    · have h1 : ¬ (9 ≤ ((w : Nat) : Int)) := h1
      refine bz_to 11 (pc2 := 60) (lv2 := [some (az_r (0)), some (az_r (34 + e.length)), some (az_i (((k : Nat) : Int))), some (az_i (((w : Nat) : Int)))]) (st2 := [az_i (((w : Nat) : Int)), az_i (((k : Nat) : Int)), az_r (0), az_i (((14 + (9 * ((k : Nat) : Int))) + ((w : Nat) : Int))), az_r (34 + e.length)]) (s2 := u) (rfl) ?_
      refine bz_q (v := zlB S ((k : Nat) : Int) ((w : Nat) : Int)) (m2 := am_m_X9_bridgeOf) (as := [az_r (0), az_i (((k : Nat) : Int)), az_i (((w : Nat) : Int))]) (rest := [az_i (((14 + (9 * ((k : Nat) : Int))) + ((w : Nat) : Int))), az_r (34 + e.length)]) htx 63 rfl rfl rfl (by omega) (lk_bridgeOf (zkS_x H K0) hh (by omega) (by constructor <;> omega) (by constructor <;> omega)) (fun t58 q59 => ?_)
      have K60 := zKx_q K0 q59
      have r61 : t58 (34 + e.length) = zse1 S 13 (9 * k + w) 0 0 := (q59.2 _ (by omega)).trans hr
      refine bz_to 0 (pc2 := 63) (lv2 := [some (az_r (0)), some (az_r (34 + e.length)), some (az_i (((k : Nat) : Int))), some (az_i (((w : Nat) : Int)))]) (st2 := [az_i (zlB S ((k : Nat) : Int) ((w : Nat) : Int)), az_i (((14 + (9 * ((k : Nat) : Int))) + ((w : Nat) : Int))), az_r (34 + e.length)]) (s2 := t58) (rfl) ?_
      refine bz_st 64 rfl hk9 (by constructor <;> omega) ⟨by decide, rfl⟩ ?_
      have K62 := zKx_up (i := 34 + e.length) (j := ((14 + (9 * k)) + w)) (v := zlB S ((k : Nat) : Int) ((w : Nat) : Int)) K60 (Nat.le_refl _) (by omega)
      have r63 := zse1_b r61 (w := w) (by omega)
      refine bz_to 0 (pc2 := 64) (lv2 := [some (az_r (0)), some (az_r (34 + e.length)), some (az_i (((k : Nat) : Int))), some (az_i (((w : Nat) : Int)))]) (st2 := []) (s2 := am_up t58 (34 + e.length) ((14 + (9 * k)) + w) (zlB S ((k : Nat) : Int) ((w : Nat) : Int))) (rfl) ?_
      refine bz_to 2 (pc2 := 41) (lv2 := [some (az_r (0)), some (az_r (34 + e.length)), some (az_i (((k : Nat) : Int))), some (az_i ((((w : Nat) : Int) + 1)))]) (st2 := []) (s2 := am_up t58 (34 + e.length) ((14 + (9 * k)) + w) (zlB S ((k : Nat) : Int) ((w : Nat) : Int))) (rfl) ?_
      exact ih _ (by omega) k (w + 1) rfl hkn (by omega) K62 r63
set_option maxRecDepth 100000 in
set_option maxHeartbeats 1600000 in
theorem lb_seen_L8 {L : Nat} {xs : Nat → Int32} {tx : Nat → Option String} (htx : ∀ i t, am_sx[i]? = some t → tx i = some t) {d : Nat} (hd : 14 ≤ d) {s : az_S} {S : zR} {h c : Nat} {G : Nat → zR} (H : zkS s S h c G) (hh : h ≤ 10000) {e : List Nat} {N M : Nat} (hk9 : (e ++ [180])[e.length]? = some 180) {x3 : Option az_V} : ∀ (mq k : Nat), mq = 13 - k → k ≤ 13 → ∀ {u : az_S}, zKx s u (34 + e.length) → u (34 + e.length) = zse1 S k 0 0 0 → bz_R L xs tx d am_m_L_seen 8 [some (az_r 0), some (az_r (34 + e.length)), some (az_i ((k : Nat) : Int)), x3] [] (e ++ [180]) u N M (fun o e2 t => o = .inl (some (az_r (34 + e.length))) ∧ e2 = e ++ [180] ∧ zKx s t (34 + e.length) ∧ t (34 + e.length) = zse S) := by
  have hn := zn_le (zkS_R H).2.1
  intro mq
  induction mq using Nat.strongRecOn with
  | _ mq ih =>
    intro k hm hk u K0 hr
    subst hm
    refine bz_to 2 (pc2 := 11) (lv2 := [some (az_r (0)), some (az_r (34 + e.length)), some (az_i (((k : Nat) : Int))), x3]) (st2 := [az_i (13), az_i (((k : Nat) : Int))]) (s2 := u) (rfl) ?_
    refine bz_if2 28 14 rfl (by decide) (by first | assumption | exact ⟨by omega, by omega⟩) ⟨by decide, by decide⟩ (fun h1 => ?_) (fun h1 => ?_)
    · have h1 : 13 ≤ ((k : Nat) : Int) := h1
      refine bz_to 2 (pc2 := 30) (lv2 := [some (az_r (0)), some (az_r (34 + e.length)), some (az_i (0)), x3]) (st2 := []) (s2 := u) (rfl) ?_
      have z64 : k = 13 := by omega
      subst z64
      refine bz_to 3 (pc2 := 33) (lv2 := [some (az_r (0)), some (az_r (34 + e.length)), some (az_i (0)), x3]) (st2 := [az_i (0), az_r (0), az_i (0)]) (s2 := u) (rfl) ?_
      refine bz_q (v := zlA S c 0) (m2 := am_m_X9_account) (as := [az_r (0), az_i (0)]) (rest := [az_i (0)]) htx 36 rfl rfl rfl (by omega) (lk_account (zkS_x H K0) hh (by omega) (by constructor <;> omega)) (fun t65 q66 => ?_)
      have K67 := zKx_q K0 q66
      have r68 : t65 (34 + e.length) = zse1 S 13 0 0 0 := (q66.2 _ (by omega)).trans hr
      refine bz_to 0 (pc2 := 36) (lv2 := [some (az_r (0)), some (az_r (34 + e.length)), some (az_i (0)), x3]) (st2 := [az_i (zlA S c 0), az_i (0)]) (s2 := t65) (rfl) ?_
      refine bz_to 0 (pc2 := 36) (lv2 := [some (az_r (0)), some (az_r (34 + e.length)), some (az_i (0)), x3]) (st2 := [az_i (((zn S 0 : Nat) : Int)), az_i (0)]) (s2 := t65) (rfl) ?_
      refine bz_if2 76 39 rfl (by decide) ⟨by decide, by decide⟩ (by first | assumption | exact ⟨by omega, by omega⟩) (fun h69 => ?_) (fun h69 => ?_)
      · have h69 : ((zn S 0 : Nat) : Int) ≤ 0 := h69
        refine bz_to 2 (pc2 := 78) (lv2 := [some (az_r (0)), some (az_r (34 + e.length)), some (az_i (0)), x3]) (st2 := []) (s2 := t65) (rfl) ?_
        have z71 : 0 = zn S 0 := by omega
        have r70 : t65 (34 + e.length) = zse1 S 13 (9 * zn S 0) (0) 0 := by rw [r68, ← z71]
        refine bz_to 3 (pc2 := 81) (lv2 := [some (az_r (0)), some (az_r (34 + e.length)), some (az_i (0)), x3]) (st2 := [az_i (1), az_r (0), az_i (0)]) (s2 := t65) (rfl) ?_
        refine bz_q (v := zlA S c 1) (m2 := am_m_X9_account) (as := [az_r (0), az_i (1)]) (rest := [az_i (0)]) htx 84 rfl rfl rfl (by omega) (lk_account (zkS_x H K67) hh (by omega) (by constructor <;> omega)) (fun t72 q73 => ?_)
        have K74 := zKx_q K67 q73
        have r75 : t72 (34 + e.length) = zse1 S 13 (9 * zn S 0) (0) 0 := (q73.2 _ (by omega)).trans r70
        refine bz_to 0 (pc2 := 84) (lv2 := [some (az_r (0)), some (az_r (34 + e.length)), some (az_i (0)), x3]) (st2 := [az_i (zlA S c 1), az_i (0)]) (s2 := t72) (rfl) ?_
        refine bz_to 0 (pc2 := 84) (lv2 := [some (az_r (0)), some (az_r (34 + e.length)), some (az_i (0)), x3]) (st2 := [az_i (((zn S 1 : Nat) : Int)), az_i (0)]) (s2 := t72) (rfl) ?_
        refine bz_if2 122 87 rfl (by decide) ⟨by decide, by decide⟩ (by first | assumption | exact ⟨by omega, by omega⟩) (fun h76 => ?_) (fun h76 => ?_)
        · have h76 : ((zn S 1 : Nat) : Int) ≤ 0 := h76
          refine bz_to 2 (pc2 := 124) (lv2 := [some (az_r (0)), some (az_r (34 + e.length)), some (az_i (0)), x3]) (st2 := []) (s2 := t72) (rfl) ?_
          have z78 : 0 = zn S 1 := by omega
          have r77 : t72 (34 + e.length) = zse1 S 13 (9 * zn S 0) (4 * zn S 1) (0) := by rw [r75, ← z78]
          refine bz_to 3 (pc2 := 127) (lv2 := [some (az_r (0)), some (az_r (34 + e.length)), some (az_i (0)), x3]) (st2 := [az_i (2), az_r (0), az_i (0)]) (s2 := t72) (rfl) ?_
          refine bz_q (v := zlA S c 2) (m2 := am_m_X9_account) (as := [az_r (0), az_i (2)]) (rest := [az_i (0)]) htx 130 rfl rfl rfl (by omega) (lk_account (zkS_x H K74) hh (by omega) (by constructor <;> omega)) (fun t79 q80 => ?_)
          have K81 := zKx_q K74 q80
          have r82 : t79 (34 + e.length) = zse1 S 13 (9 * zn S 0) (4 * zn S 1) (0) := (q80.2 _ (by omega)).trans r77
          refine bz_to 0 (pc2 := 130) (lv2 := [some (az_r (0)), some (az_r (34 + e.length)), some (az_i (0)), x3]) (st2 := [az_i (zlA S c 2), az_i (0)]) (s2 := t79) (rfl) ?_
          refine bz_to 0 (pc2 := 130) (lv2 := [some (az_r (0)), some (az_r (34 + e.length)), some (az_i (0)), x3]) (st2 := [az_i (((zn S 2 : Nat) : Int)), az_i (0)]) (s2 := t79) (rfl) ?_
          refine bz_if2 171 133 rfl (by decide) ⟨by decide, by decide⟩ (by first | assumption | exact ⟨by omega, by omega⟩) (fun h83 => ?_) (fun h83 => ?_)
          · have h83 : ((zn S 2 : Nat) : Int) ≤ 0 := h83
            refine bz_to 1 (pc2 := 172) (lv2 := [some (az_r (0)), some (az_r (34 + e.length)), some (az_i (0)), x3]) (st2 := [az_r (34 + e.length)]) (s2 := t79) (rfl) ?_
            have z84 : 0 = zn S 2 := by omega
            refine bz_retA rfl rfl (Or.inr ⟨_, rfl⟩) ⟨rfl, rfl, K81, ?_⟩
            rw [r82, zse, ← z84]
          · have h83 : ¬ (((zn S 2 : Nat) : Int) ≤ 0) := h83
            refine bz_to 2 (pc2 := 135) (lv2 := [some (az_r (0)), some (az_r (34 + e.length)), some (az_i (0)), some (az_i (0))]) (st2 := []) (s2 := t79) (rfl) ?_
            exact lb_seen_I135 htx hd H hh hk9 _ 0 0 rfl (by omega) (by omega) K81 (by rw [r82])
        · have h76 : ¬ (((zn S 1 : Nat) : Int) ≤ 0) := h76
          refine bz_to 2 (pc2 := 89) (lv2 := [some (az_r (0)), some (az_r (34 + e.length)), some (az_i (0)), some (az_i (0))]) (st2 := []) (s2 := t72) (rfl) ?_
          exact lb_seen_I89 htx hd H hh hk9 _ 0 0 rfl (by omega) (by omega) K74 (by rw [r75])
      · have h69 : ¬ (((zn S 0 : Nat) : Int) ≤ 0) := h69
        refine bz_to 2 (pc2 := 41) (lv2 := [some (az_r (0)), some (az_r (34 + e.length)), some (az_i (0)), some (az_i (0))]) (st2 := []) (s2 := t65) (rfl) ?_
        exact lb_seen_I41 htx hd H hh hk9 _ 0 0 rfl (by omega) (by omega) K67 (by rw [r68])
    · have h1 : ¬ (13 ≤ ((k : Nat) : Int)) := h1
      refine bz_to 4 (pc2 := 18) (lv2 := [some (az_r (0)), some (az_r (34 + e.length)), some (az_i (((k : Nat) : Int))), x3]) (st2 := [az_i (((k : Nat) : Int)), az_r (0), az_i (((k : Nat) : Int)), az_r (34 + e.length)]) (s2 := u) (rfl) ?_
      refine bz_q (v := zlA S c ((k : Nat) : Int)) (m2 := am_m_X9_account) (as := [az_r (0), az_i (((k : Nat) : Int))]) (rest := [az_i (((k : Nat) : Int)), az_r (34 + e.length)]) htx 21 rfl rfl rfl (by omega) (lk_account (zkS_x H K0) hh (by omega) (by constructor <;> omega)) (fun t85 q86 => ?_)
      have K87 := zKx_q K0 q86
      have r88 : t85 (34 + e.length) = zse1 S k 0 0 0 := (q86.2 _ (by omega)).trans hr
      refine bz_to 0 (pc2 := 21) (lv2 := [some (az_r (0)), some (az_r (34 + e.length)), some (az_i (((k : Nat) : Int))), x3]) (st2 := [az_i (zlA S c ((k : Nat) : Int)), az_i (((k : Nat) : Int)), az_r (34 + e.length)]) (s2 := t85) (rfl) ?_
      refine bz_st 22 rfl hk9 (by constructor <;> omega) ⟨by decide, rfl⟩ ?_
      have K89 := zKx_up (i := 34 + e.length) (j := k) (v := zlA S c ((k : Nat) : Int)) K87 (Nat.le_refl _) (by omega)
      have r90 := zse1_a (c := c) r88 (by omega)
      refine bz_to 0 (pc2 := 22) (lv2 := [some (az_r (0)), some (az_r (34 + e.length)), some (az_i (((k : Nat) : Int))), x3]) (st2 := []) (s2 := am_up t85 (34 + e.length) k (zlA S c ((k : Nat) : Int))) (rfl) ?_
      refine bz_to 2 (pc2 := 8) (lv2 := [some (az_r (0)), some (az_r (34 + e.length)), some (az_i ((((k : Nat) : Int) + 1))), x3]) (st2 := []) (s2 := am_up t85 (34 + e.length) k (zlA S c ((k : Nat) : Int))) (rfl) ?_
      exact ih _ (by omega) (k + 1) rfl (by omega) K89 r90
set_option maxRecDepth 100000 in
theorem lb_seen {L : Nat} {xs : Nat → Int32} {tx : Nat → Option String} (htx : ∀ i t, am_sx[i]? = some t → tx i = some t) {d : Nat} (hd : 14 ≤ d) {s : az_S} {S : zR} {h c : Nat} {G : Nat → zR} (H : zkS s S h c G) (hh : h ≤ 10000) {e : List Nat} {N M : Nat} (hN : 1 ≤ N) (hM : 180 ≤ M) : bz_R L xs tx d am_m_L_seen 0 (az_ini (am_mL am_m_L_seen) [az_r 0]) [] e s N M (fun o e2 t => o = .inl (some (az_r (34 + e.length))) ∧ e2 = e ++ [180] ∧ zKx s t (34 + e.length) ∧ t (34 + e.length) = zse S) := by
  refine bz_to 0 (pc2 := 0) (lv2 := [some (az_r (0)), none, none, none]) (st2 := []) (s2 := s) (rfl) ?_
  refine bz_to 1 (pc2 := 3) (lv2 := [some (az_r (0)), none, none, none]) (st2 := [az_i (180)]) (s2 := s) (rfl) ?_
  refine bz_new (n := 180) 5 (N - 1) (M - 180) rfl ⟨by omega, rfl⟩ ⟨by omega, by omega⟩ ?_
  refine bz_to 0 (pc2 := 5) (lv2 := [some (az_r (0)), none, none, none]) (st2 := [az_r (34 + e.length)]) (s2 := am_ur s (34 + e.length) (fun _ => 0)) (rfl) ?_
  refine bz_to 3 (pc2 := 8) (lv2 := [some (az_r (0)), some (az_r (34 + e.length)), some (az_i (0)), none]) (st2 := []) (s2 := am_ur s (34 + e.length) (fun _ => 0)) (rfl) ?_
  exact lb_seen_L8 htx hd H hh (by simp) 13 0 rfl (by omega) (zKx_ur (zKx_r s _) (Nat.le_refl _) (by omega)) (by rw [zse1_0]; exact am_ur_row _ _ _)
