/-! THE LAW, 14: begun behind the constructor; written by program (wip/p47tools/l74.py) -/
theorem zo_bridge_1 {S : zR} {h : Nat} (hI : zInv S h) : 1 ≤ zn (zo_bridge S 0 1 3 2).2.2.2 0 := by
  have hn := zn_le hI
  have hz := zn_eq hI
  unfold zo_bridge
  rw [if_neg (by decide), if_neg (by decide), if_neg (by decide)]
  split
  · rename_i q
    show 1 ≤ zn S 0
    omega
  · show 1 ≤ (zbS S 0 1 3 2 0).toNat
    have e : zbS S 0 1 3 2 0 = S 0 + 1 := zup_eq _ _ _
    rw [e]
    omega
set_option maxRecDepth 100000 in
set_option maxHeartbeats 1600000 in
theorem lg_146 {L : Nat} {xs : Nat → Int32} {tx : Nat → Option String} (htx : ∀ i t, am_sx[i]? = some t → tx i = some t) {d : Nat} (hd : 18 ≤ d) (hL : L < 2147483648) {e : List Nat} : ∀ (mq k : Nat), mq = 2 - k → k ≤ 2 → ∀ {s : az_S} {S : zR} {h c : Nat} {G : Nat → zR} {N M : Nat} (n : Int), zkS s S h c G → 1 ≤ zn S 0 → h ≤ 60 + 2 * k → 10 - 2 * k ≤ N → 60 - 12 * k ≤ M → -40000000 - 2000000 * (k : Int) ≤ n → n ≤ 40000000 + 2000000 * (k : Int) → bz_R L xs tx d am_m_L_begun 146 [some (az_x 0), some (az_r (0)), some (az_i (n)), some (az_i (((k : Nat) : Int)))] [] e s N M (fun o e2 t => o = .inl (some (az_r 0)) ∧ e2 = e ∧ ∃ (S2 : zR) (h2 c2 : Nat) (G2 : Nat → zR), zkS t S2 h2 c2 G2 ∧ h2 ≤ 100 ∧ 1 ≤ zn S2 0) := by
  intro mq
  induction mq using Nat.strongRecOn with
  | _ mq ih =>
    intro k hm hk s S h c G N M n H h1n hh hN hM n1 n2
    subst hm
    refine bz_to 2 (pc2 := 148) (lv2 := [some (az_x 0), some (az_r (0)), some (az_i (n)), some (az_i (((k : Nat) : Int)))]) (st2 := [az_i (2), az_i (((k : Nat) : Int))]) (s2 := s) (rfl) ?_
    refine bz_if2 226 151 rfl (by decide) (by first | assumption | exact ⟨by omega, by omega⟩) ⟨by decide, by decide⟩ (fun h1 => ?_) (fun h1 => ?_)
    · have h1 : 2 ≤ ((k : Nat) : Int) := h1
      refine bz_to 5 (pc2 := 232) (lv2 := [some (az_x 0), some (az_r (0)), some (az_i (n)), some (az_i (((k : Nat) : Int)))]) (st2 := [az_i (4), az_i (50), az_x 0, az_r (0), az_i (n)]) (s2 := s) (rfl) ?_
      refine bz_w 235 (N1 := 0) (M1 := 0) (m2 := am_m_L_in) (as := [az_x 0, az_i (50), az_i (4)]) (rest := [az_r (0), az_i (n)]) rfl rfl rfl ⟨Nat.zero_add _, Nat.zero_add _⟩ (by omega) (lb_in hL (by omega) ⟨by omega, by omega⟩ (n := 4) (by decide)) (fun v e2 t q => ?_) (fun E e2 t q => by obtain ⟨w, _, _, q, _⟩ := q; cases q)
      obtain ⟨w6, aw6, bw6, q1, q2, q3⟩ := q
      cases q1
      rw [q2, q3]
      clear q2 q3
      refine bz_to 0 (pc2 := 235) (lv2 := [some (az_x 0), some (az_r (0)), some (az_i (n)), some (az_i (((k : Nat) : Int)))]) (st2 := [az_i (w6), az_r (0), az_i (n)]) (s2 := s) (rfl) ?_
      refine bz_to 3 (pc2 := 240) (lv2 := [some (az_x 0), some (az_r (0)), some (az_i (n)), some (az_i (((k : Nat) : Int)))]) (st2 := [az_i (8), az_i (51), az_x 0, az_i (w6), az_r (0), az_i (n)]) (s2 := s) (rfl) ?_
      refine bz_w 243 (N1 := 0) (M1 := 0) (m2 := am_m_L_in) (as := [az_x 0, az_i (51), az_i (8)]) (rest := [az_i (w6), az_r (0), az_i (n)]) rfl rfl rfl ⟨Nat.zero_add _, Nat.zero_add _⟩ (by omega) (lb_in hL (by omega) ⟨by omega, by omega⟩ (n := 8) (by decide)) (fun v e2 t q => ?_) (fun E e2 t q => by obtain ⟨w, _, _, q, _⟩ := q; cases q)
      obtain ⟨w7, aw7, bw7, q1, q2, q3⟩ := q
      cases q1
      rw [q2, q3]
      clear q2 q3
      refine bz_to 0 (pc2 := 243) (lv2 := [some (az_x 0), some (az_r (0)), some (az_i (n)), some (az_i (((k : Nat) : Int)))]) (st2 := [az_i (w7), az_i (w6), az_r (0), az_i (n)]) (s2 := s) (rfl) ?_
      refine bz_w 246 (N1 := 1) (M1 := 6) (N2 := N - 1) (M2 := M - 6) (m2 := am_m_L_dispute) (as := [az_r (0), az_i (w6), az_i (w7)]) (rest := [az_i (n)]) rfl rfl rfl ⟨by omega, by omega⟩ (by omega) (lw_dispute htx (d := d - 1) (by omega) H (by omega) (by omega) (by omega) (by constructor <;> omega) (by constructor <;> omega)) (fun v9 e2 t9 q10 => ?_) (fun E e2 t q => by obtain ⟨_, q, _⟩ := q; cases q)
      obtain ⟨v8, qa, qb, q10⟩ := q10
      cases qa
      rw [qb]
      clear qb
      refine bz_to 0 (pc2 := 246) (lv2 := [some (az_x 0), some (az_r (0)), some (az_i (n)), some (az_i (((k : Nat) : Int)))]) (st2 := [az_i (v8), az_i (n)]) (s2 := t9) (rfl) ?_
      obtain ⟨r11, -, nr11, cr11, Gr11, H12⟩ := lch_s q10
      refine bz_to 4 (pc2 := 251) (lv2 := [some (az_x 0), some (az_r (0)), some (az_i ((n + v8))), some (az_i (((k : Nat) : Int)))]) (st2 := [az_i (-90000000), az_i ((n + v8))]) (s2 := t9) (rfl) ?_
      refine bz_if2 258 254 rfl (by decide) (by first | assumption | exact ⟨by omega, by omega⟩) ⟨by decide, by decide⟩ (fun _ => ?_) (fun h9 => absurd (show az_cnd _ _ _ by unfold az_cnd; omega) h9)
      refine bz_to 1 (pc2 := 259) (lv2 := [some (az_x 0), some (az_r (0)), some (az_i ((n + v8))), some (az_i (((k : Nat) : Int)))]) (st2 := [az_r (0)]) (s2 := t9) (rfl) ?_
      exact bz_retA rfl rfl (Or.inl ⟨_, rfl⟩) ⟨rfl, rfl, _, _, _, _, H12, by omega, by omega⟩
    · have h1 : ¬ (2 ≤ ((k : Nat) : Int)) := h1
      refine bz_to 7 (pc2 := 159) (lv2 := [some (az_x 0), some (az_r (0)), some (az_i (n)), some (az_i (((k : Nat) : Int)))]) (st2 := [az_i (4), az_i ((40 + ((k : Nat) : Int))), az_x 0, az_r (0), az_i (n)]) (s2 := s) (rfl) ?_
      refine bz_w 162 (N1 := 0) (M1 := 0) (m2 := am_m_L_in) (as := [az_x 0, az_i ((40 + ((k : Nat) : Int))), az_i (4)]) (rest := [az_r (0), az_i (n)]) rfl rfl rfl ⟨Nat.zero_add _, Nat.zero_add _⟩ (by omega) (lb_in hL (by omega) ⟨by omega, by omega⟩ (n := 4) (by decide)) (fun v e2 t q => ?_) (fun E e2 t q => by obtain ⟨w, _, _, q, _⟩ := q; cases q)
      obtain ⟨w13, aw13, bw13, q1, q2, q3⟩ := q
      cases q1
      rw [q2, q3]
      clear q2 q3
      refine bz_to 0 (pc2 := 162) (lv2 := [some (az_x 0), some (az_r (0)), some (az_i (n)), some (az_i (((k : Nat) : Int)))]) (st2 := [az_i (w13), az_r (0), az_i (n)]) (s2 := s) (rfl) ?_
      refine bz_to 6 (pc2 := 170) (lv2 := [some (az_x 0), some (az_r (0)), some (az_i (n)), some (az_i (((k : Nat) : Int)))]) (st2 := [az_i (9), az_i ((42 + ((k : Nat) : Int))), az_x 0, az_i (1), az_i (w13), az_r (0), az_i (n)]) (s2 := s) (rfl) ?_
      refine bz_w 173 (N1 := 0) (M1 := 0) (m2 := am_m_L_in) (as := [az_x 0, az_i ((42 + ((k : Nat) : Int))), az_i (9)]) (rest := [az_i (1), az_i (w13), az_r (0), az_i (n)]) rfl rfl rfl ⟨Nat.zero_add _, Nat.zero_add _⟩ (by omega) (lb_in hL (by omega) ⟨by omega, by omega⟩ (n := 9) (by decide)) (fun v e2 t q => ?_) (fun E e2 t q => by obtain ⟨w, _, _, q, _⟩ := q; cases q)
      obtain ⟨w14, aw14, bw14, q1, q2, q3⟩ := q
      cases q1
      rw [q2, q3]
      clear q2 q3
      refine bz_to 0 (pc2 := 173) (lv2 := [some (az_x 0), some (az_r (0)), some (az_i (n)), some (az_i (((k : Nat) : Int)))]) (st2 := [az_i (w14), az_i (1), az_i (w13), az_r (0), az_i (n)]) (s2 := s) (rfl) ?_
      refine bz_to 7 (pc2 := 182) (lv2 := [some (az_x 0), some (az_r (0)), some (az_i (n)), some (az_i (((k : Nat) : Int)))]) (st2 := [az_i (12), az_i ((44 + ((k : Nat) : Int))), az_x 0, az_i (1), az_i ((1 + w14)), az_i (w13), az_r (0), az_i (n)]) (s2 := s) (rfl) ?_
      refine bz_w 185 (N1 := 0) (M1 := 0) (m2 := am_m_L_in) (as := [az_x 0, az_i ((44 + ((k : Nat) : Int))), az_i (12)]) (rest := [az_i (1), az_i ((1 + w14)), az_i (w13), az_r (0), az_i (n)]) rfl rfl rfl ⟨Nat.zero_add _, Nat.zero_add _⟩ (by omega) (lb_in hL (by omega) ⟨by omega, by omega⟩ (n := 12) (by decide)) (fun v e2 t q => ?_) (fun E e2 t q => by obtain ⟨w, _, _, q, _⟩ := q; cases q)
      obtain ⟨w15, aw15, bw15, q1, q2, q3⟩ := q
      cases q1
      rw [q2, q3]
      clear q2 q3
      refine bz_to 0 (pc2 := 185) (lv2 := [some (az_x 0), some (az_r (0)), some (az_i (n)), some (az_i (((k : Nat) : Int)))]) (st2 := [az_i (w15), az_i (1), az_i ((1 + w14)), az_i (w13), az_r (0), az_i (n)]) (s2 := s) (rfl) ?_
      refine bz_to 1 (pc2 := 186) (lv2 := [some (az_x 0), some (az_r (0)), some (az_i (n)), some (az_i (((k : Nat) : Int)))]) (st2 := [az_i ((1 + w15)), az_i ((1 + w14)), az_i (w13), az_r (0), az_i (n)]) (s2 := s) (rfl) ?_
      refine bz_w 189 (N1 := 1) (M1 := 6) (N2 := N - 1) (M2 := M - 6) (m2 := am_m_L_riddle) (as := [az_r (0), az_i (w13), az_i ((1 + w14)), az_i ((1 + w15))]) (rest := [az_i (n)]) rfl rfl rfl ⟨by omega, by omega⟩ (by omega) (lw_riddle htx (d := d - 1) (by omega) H (by omega) (by omega) (by omega) (by constructor <;> omega) (by constructor <;> omega) (by constructor <;> omega)) (fun v9 e2 t17 q18 => ?_) (fun E e2 t q => by obtain ⟨_, q, _⟩ := q; cases q)
      obtain ⟨v16, qa, qb, q18⟩ := q18
      cases qa
      rw [qb]
      clear qb
      refine bz_to 0 (pc2 := 189) (lv2 := [some (az_x 0), some (az_r (0)), some (az_i (n)), some (az_i (((k : Nat) : Int)))]) (st2 := [az_i (v16), az_i (n)]) (s2 := t17) (rfl) ?_
      obtain ⟨r19, -, nr19, cr19, Gr19, H20⟩ := lch_s q18
      refine bz_to 9 (pc2 := 200) (lv2 := [some (az_x 0), some (az_r (0)), some (az_i ((n + v16))), some (az_i (((k : Nat) : Int)))]) (st2 := [az_i (8), az_i ((46 + ((k : Nat) : Int))), az_x 0, az_r (0), az_i ((n + v16))]) (s2 := t17) (rfl) ?_
      refine bz_w 203 (N1 := 0) (M1 := 0) (m2 := am_m_L_in) (as := [az_x 0, az_i ((46 + ((k : Nat) : Int))), az_i (8)]) (rest := [az_r (0), az_i ((n + v16))]) rfl rfl rfl ⟨Nat.zero_add _, Nat.zero_add _⟩ (by omega) (lb_in hL (by omega) ⟨by omega, by omega⟩ (n := 8) (by decide)) (fun v e2 t q => ?_) (fun E e2 t q => by obtain ⟨w, _, _, q, _⟩ := q; cases q)
      obtain ⟨w21, aw21, bw21, q1, q2, q3⟩ := q
      cases q1
      rw [q2, q3]
      clear q2 q3
      refine bz_to 0 (pc2 := 203) (lv2 := [some (az_x 0), some (az_r (0)), some (az_i ((n + v16))), some (az_i (((k : Nat) : Int)))]) (st2 := [az_i (w21), az_r (0), az_i ((n + v16))]) (s2 := t17) (rfl) ?_
      refine bz_to 6 (pc2 := 211) (lv2 := [some (az_x 0), some (az_r (0)), some (az_i ((n + v16))), some (az_i (((k : Nat) : Int)))]) (st2 := [az_i (12), az_i ((48 + ((k : Nat) : Int))), az_x 0, az_i (1), az_i (w21), az_r (0), az_i ((n + v16))]) (s2 := t17) (rfl) ?_
      refine bz_w 214 (N1 := 0) (M1 := 0) (m2 := am_m_L_in) (as := [az_x 0, az_i ((48 + ((k : Nat) : Int))), az_i (12)]) (rest := [az_i (1), az_i (w21), az_r (0), az_i ((n + v16))]) rfl rfl rfl ⟨Nat.zero_add _, Nat.zero_add _⟩ (by omega) (lb_in hL (by omega) ⟨by omega, by omega⟩ (n := 12) (by decide)) (fun v e2 t q => ?_) (fun E e2 t q => by obtain ⟨w, _, _, q, _⟩ := q; cases q)
      obtain ⟨w22, aw22, bw22, q1, q2, q3⟩ := q
      cases q1
      rw [q2, q3]
      clear q2 q3
      refine bz_to 0 (pc2 := 214) (lv2 := [some (az_x 0), some (az_r (0)), some (az_i ((n + v16))), some (az_i (((k : Nat) : Int)))]) (st2 := [az_i (w22), az_i (1), az_i (w21), az_r (0), az_i ((n + v16))]) (s2 := t17) (rfl) ?_
      refine bz_to 1 (pc2 := 215) (lv2 := [some (az_x 0), some (az_r (0)), some (az_i ((n + v16))), some (az_i (((k : Nat) : Int)))]) (st2 := [az_i ((1 + w22)), az_i (w21), az_r (0), az_i ((n + v16))]) (s2 := t17) (rfl) ?_
      refine bz_w 218 (N1 := 1) (M1 := 6) (N2 := N - 1 - 1) (M2 := M - 6 - 6) (m2 := am_m_L_fog) (as := [az_r (0), az_i (w21), az_i ((1 + w22))]) (rest := [az_i ((n + v16))]) rfl rfl rfl ⟨by omega, by omega⟩ (by omega) (lw_fog htx (d := d - 1) (by omega) H20 (by omega) (by omega) (by omega) (by constructor <;> omega) (by constructor <;> omega)) (fun v9 e2 t24 q25 => ?_) (fun E e2 t q => by obtain ⟨_, q, _⟩ := q; cases q)
      obtain ⟨v23, qa, qb, q25⟩ := q25
      cases qa
      rw [qb]
      clear qb
      refine bz_to 0 (pc2 := 218) (lv2 := [some (az_x 0), some (az_r (0)), some (az_i ((n + v16))), some (az_i (((k : Nat) : Int)))]) (st2 := [az_i (v23), az_i ((n + v16))]) (s2 := t24) (rfl) ?_
      obtain ⟨r26, -, nr26, cr26, Gr26, H27⟩ := lch_s q25
      refine bz_to 4 (pc2 := 146) (lv2 := [some (az_x 0), some (az_r (0)), some (az_i (((n + v16) + v23))), some (az_i ((((k : Nat) : Int) + 1)))]) (st2 := []) (s2 := t24) (rfl) ?_
      exact ih _ (by omega) (k + 1) rfl (by omega) _ H27 (by omega) (by omega) (by omega) (by omega) (by omega) (by omega)
set_option maxRecDepth 100000 in
set_option maxHeartbeats 1600000 in
theorem lg_83 {L : Nat} {xs : Nat → Int32} {tx : Nat → Option String} (htx : ∀ i t, am_sx[i]? = some t → tx i = some t) {d : Nat} (hd : 18 ≤ d) (hL : L < 2147483648) {e : List Nat} : ∀ (mq k : Nat), mq = 4 - k → k ≤ 4 → ∀ {s : az_S} {S : zR} {h c : Nat} {G : Nat → zR} {N M : Nat} (n : Int), zkS s S h c G → 1 ≤ zn S 0 → h ≤ 40 + 3 * k → 30 - 3 * k ≤ N → 180 - 18 * k ≤ M → -20000000 - 3000000 * (k : Int) ≤ n → n ≤ 20000000 + 3000000 * (k : Int) → bz_R L xs tx d am_m_L_begun 83 [some (az_x 0), some (az_r (0)), some (az_i (n)), some (az_i (((k : Nat) : Int)))] [] e s N M (fun o e2 t => o = .inl (some (az_r 0)) ∧ e2 = e ∧ ∃ (S2 : zR) (h2 c2 : Nat) (G2 : Nat → zR), zkS t S2 h2 c2 G2 ∧ h2 ≤ 100 ∧ 1 ≤ zn S2 0) := by
  intro mq
  induction mq using Nat.strongRecOn with
  | _ mq ih =>
    intro k hm hk s S h c G N M n H h1n hh hN hM n1 n2
    subst hm
    refine bz_to 2 (pc2 := 85) (lv2 := [some (az_x 0), some (az_r (0)), some (az_i (n)), some (az_i (((k : Nat) : Int)))]) (st2 := [az_i (4), az_i (((k : Nat) : Int))]) (s2 := s) (rfl) ?_
    refine bz_if2 144 88 rfl (by decide) (by first | assumption | exact ⟨by omega, by omega⟩) ⟨by decide, by decide⟩ (fun h1 => ?_) (fun h1 => ?_)
    · have h1 : 4 ≤ ((k : Nat) : Int) := h1
      refine bz_to 2 (pc2 := 146) (lv2 := [some (az_x 0), some (az_r (0)), some (az_i (n)), some (az_i (0))]) (st2 := []) (s2 := s) (rfl) ?_
      exact lg_146 htx hd hL _ 0 rfl (by omega) _ H (by omega) (by omega) (by omega) (by omega) (by omega) (by omega)
    · have h1 : ¬ (4 ≤ ((k : Nat) : Int)) := h1
      refine bz_to 2 (pc2 := 90) (lv2 := [some (az_x 0), some (az_r (0)), some (az_i (n)), some (az_i (((k : Nat) : Int)))]) (st2 := [az_r (0), az_i (n)]) (s2 := s) (rfl) ?_
      refine bz_w 93 (N1 := 1) (M1 := 6) (N2 := N - 1) (M2 := M - 6) (m2 := am_m_L_troll) (as := [az_r (0)]) (rest := [az_i (n)]) rfl rfl rfl ⟨by omega, by omega⟩ (by omega) (lw_troll htx (d := d - 1) (by omega) H (by omega) (by omega) (by omega) ) (fun v9 e2 t29 q30 => ?_) (fun E e2 t q => by obtain ⟨_, q, _⟩ := q; cases q)
      obtain ⟨v28, qa, qb, q30⟩ := q30
      cases qa
      rw [qb]
      clear qb
      refine bz_to 0 (pc2 := 93) (lv2 := [some (az_x 0), some (az_r (0)), some (az_i (n)), some (az_i (((k : Nat) : Int)))]) (st2 := [az_i (v28), az_i (n)]) (s2 := t29) (rfl) ?_
      obtain ⟨r31, -, nr31, cr31, Gr31, H32⟩ := lch_s q30
      refine bz_to 7 (pc2 := 102) (lv2 := [some (az_x 0), some (az_r (0)), some (az_i (n)), some (az_i (((k : Nat) : Int)))]) (st2 := [az_i (8), az_i ((28 + ((k : Nat) : Int))), az_x 0, az_i (((k : Nat) : Int)), az_r (0), az_i (v28), az_i (n)]) (s2 := t29) (rfl) ?_
      refine bz_w 105 (N1 := 0) (M1 := 0) (m2 := am_m_L_in) (as := [az_x 0, az_i ((28 + ((k : Nat) : Int))), az_i (8)]) (rest := [az_i (((k : Nat) : Int)), az_r (0), az_i (v28), az_i (n)]) rfl rfl rfl ⟨Nat.zero_add _, Nat.zero_add _⟩ (by omega) (lb_in hL (by omega) ⟨by omega, by omega⟩ (n := 8) (by decide)) (fun v e2 t q => ?_) (fun E e2 t q => by obtain ⟨w, _, _, q, _⟩ := q; cases q)
      obtain ⟨w33, aw33, bw33, q1, q2, q3⟩ := q
      cases q1
      rw [q2, q3]
      clear q2 q3
      refine bz_to 0 (pc2 := 105) (lv2 := [some (az_x 0), some (az_r (0)), some (az_i (n)), some (az_i (((k : Nat) : Int)))]) (st2 := [az_i (w33), az_i (((k : Nat) : Int)), az_r (0), az_i (v28), az_i (n)]) (s2 := t29) (rfl) ?_
      refine bz_w 108 (N1 := 1) (M1 := 6) (N2 := N - 1 - 1) (M2 := M - 6 - 6) (m2 := am_m_L_post) (as := [az_r (0), az_i (((k : Nat) : Int)), az_i (w33)]) (rest := [az_i (v28), az_i (n)]) rfl rfl rfl ⟨by omega, by omega⟩ (by omega) (lw_post htx (d := d - 1) (by omega) H32 (by omega) (by omega) (by omega) (by constructor <;> omega) (by constructor <;> omega)) (fun v9 e2 t35 q36 => ?_) (fun E e2 t q => by obtain ⟨_, q, _⟩ := q; cases q)
      obtain ⟨v34, qa, qb, q36⟩ := q36
      cases qa
      rw [qb]
      clear qb
      refine bz_to 0 (pc2 := 108) (lv2 := [some (az_x 0), some (az_r (0)), some (az_i (n)), some (az_i (((k : Nat) : Int)))]) (st2 := [az_i (v34), az_i (v28), az_i (n)]) (s2 := t35) (rfl) ?_
      obtain ⟨r37, -, nr37, cr37, Gr37, H38⟩ := lch_s q36
      refine bz_to 10 (pc2 := 120) (lv2 := [some (az_x 0), some (az_r (0)), some (az_i ((n + (v28 + v34)))), some (az_i (((k : Nat) : Int)))]) (st2 := [az_i (6), az_i ((32 + ((k : Nat) : Int))), az_x 0, az_r (0), az_i ((n + (v28 + v34)))]) (s2 := t35) (rfl) ?_
      refine bz_w 123 (N1 := 0) (M1 := 0) (m2 := am_m_L_in) (as := [az_x 0, az_i ((32 + ((k : Nat) : Int))), az_i (6)]) (rest := [az_r (0), az_i ((n + (v28 + v34)))]) rfl rfl rfl ⟨Nat.zero_add _, Nat.zero_add _⟩ (by omega) (lb_in hL (by omega) ⟨by omega, by omega⟩ (n := 6) (by decide)) (fun v e2 t q => ?_) (fun E e2 t q => by obtain ⟨w, _, _, q, _⟩ := q; cases q)
      obtain ⟨w39, aw39, bw39, q1, q2, q3⟩ := q
      cases q1
      rw [q2, q3]
      clear q2 q3
      refine bz_to 0 (pc2 := 123) (lv2 := [some (az_x 0), some (az_r (0)), some (az_i ((n + (v28 + v34)))), some (az_i (((k : Nat) : Int)))]) (st2 := [az_i (w39), az_r (0), az_i ((n + (v28 + v34)))]) (s2 := t35) (rfl) ?_
      refine bz_to 5 (pc2 := 130) (lv2 := [some (az_x 0), some (az_r (0)), some (az_i ((n + (v28 + v34)))), some (az_i (((k : Nat) : Int)))]) (st2 := [az_i (50), az_i ((36 + ((k : Nat) : Int))), az_x 0, az_i (w39), az_r (0), az_i ((n + (v28 + v34)))]) (s2 := t35) (rfl) ?_
      refine bz_w 133 (N1 := 0) (M1 := 0) (m2 := am_m_L_in) (as := [az_x 0, az_i ((36 + ((k : Nat) : Int))), az_i (50)]) (rest := [az_i (w39), az_r (0), az_i ((n + (v28 + v34)))]) rfl rfl rfl ⟨Nat.zero_add _, Nat.zero_add _⟩ (by omega) (lb_in hL (by omega) ⟨by omega, by omega⟩ (n := 50) (by decide)) (fun v e2 t q => ?_) (fun E e2 t q => by obtain ⟨w, _, _, q, _⟩ := q; cases q)
      obtain ⟨w40, aw40, bw40, q1, q2, q3⟩ := q
      cases q1
      rw [q2, q3]
      clear q2 q3
      refine bz_to 0 (pc2 := 133) (lv2 := [some (az_x 0), some (az_r (0)), some (az_i ((n + (v28 + v34)))), some (az_i (((k : Nat) : Int)))]) (st2 := [az_i (w40), az_i (w39), az_r (0), az_i ((n + (v28 + v34)))]) (s2 := t35) (rfl) ?_
      refine bz_w 136 (N1 := 1) (M1 := 6) (N2 := N - 1 - 1 - 1) (M2 := M - 6 - 6 - 6) (m2 := am_m_L_goat) (as := [az_r (0), az_i (w39), az_i (w40)]) (rest := [az_i ((n + (v28 + v34)))]) rfl rfl rfl ⟨by omega, by omega⟩ (by omega) (lw_goat htx (d := d - 1) (by omega) H38 (by omega) (by omega) (by omega) (by constructor <;> omega) (by constructor <;> omega)) (fun v9 e2 t42 q43 => ?_) (fun E e2 t q => by obtain ⟨_, q, _⟩ := q; cases q)
      obtain ⟨v41, qa, qb, q43⟩ := q43
      cases qa
      rw [qb]
      clear qb
      refine bz_to 0 (pc2 := 136) (lv2 := [some (az_x 0), some (az_r (0)), some (az_i ((n + (v28 + v34)))), some (az_i (((k : Nat) : Int)))]) (st2 := [az_i (v41), az_i ((n + (v28 + v34)))]) (s2 := t42) (rfl) ?_
      obtain ⟨r44, -, nr44, cr44, Gr44, H45⟩ := lch_s q43
      refine bz_to 4 (pc2 := 83) (lv2 := [some (az_x 0), some (az_r (0)), some (az_i (((n + (v28 + v34)) + v41))), some (az_i ((((k : Nat) : Int) + 1)))]) (st2 := []) (s2 := t42) (rfl) ?_
      exact ih _ (by omega) (k + 1) rfl (by omega) _ H45 (by omega) (by omega) (by omega) (by omega) (by omega) (by omega)
set_option maxRecDepth 100000 in
set_option maxHeartbeats 1600000 in
theorem lg_12 {L : Nat} {xs : Nat → Int32} {tx : Nat → Option String} (htx : ∀ i t, am_sx[i]? = some t → tx i = some t) {d : Nat} (hd : 18 ≤ d) (hL : L < 2147483648) {e : List Nat} : ∀ (mq k : Nat), mq = 7 - k → k ≤ 7 → ∀ {s : az_S} {S : zR} {h c : Nat} {G : Nat → zR} {N M : Nat} (n : Int), zkS s S h c G → h ≤ 1 * k → 50 - k ≤ N → 300 - 6 * k ≤ M → -1000000 * (k : Int) ≤ n → n ≤ 1000000 * (k : Int) → bz_R L xs tx d am_m_L_begun 12 [some (az_x 0), some (az_r (0)), some (az_i (n)), some (az_i (((k : Nat) : Int)))] [] e s N M (fun o e2 t => o = .inl (some (az_r 0)) ∧ e2 = e ∧ ∃ (S2 : zR) (h2 c2 : Nat) (G2 : Nat → zR), zkS t S2 h2 c2 G2 ∧ h2 ≤ 100 ∧ 1 ≤ zn S2 0) := by
  intro mq
  induction mq using Nat.strongRecOn with
  | _ mq ih =>
    intro k hm hk s S h c G N M n H hh hN hM n1 n2
    subst hm
    refine bz_to 2 (pc2 := 15) (lv2 := [some (az_x 0), some (az_r (0)), some (az_i (n)), some (az_i (((k : Nat) : Int)))]) (st2 := [az_i (7), az_i (((k : Nat) : Int))]) (s2 := s) (rfl) ?_
    refine bz_if2 70 18 rfl (by decide) (by first | assumption | exact ⟨by omega, by omega⟩) ⟨by decide, by decide⟩ (fun h1 => ?_) (fun h1 => ?_)
    · have h1 : 7 ≤ ((k : Nat) : Int) := h1
      refine bz_to 6 (pc2 := 76) (lv2 := [some (az_x 0), some (az_r (0)), some (az_i (n)), some (az_i (((k : Nat) : Int)))]) (st2 := [az_i (2), az_i (3), az_i (1), az_i (0), az_r (0), az_i (n)]) (s2 := s) (rfl) ?_
      refine bz_w 79 (N1 := 1) (M1 := 6) (N2 := N - 1) (M2 := M - 6) (m2 := am_m_L_bridge) (as := [az_r (0), az_i (0), az_i (1), az_i (3), az_i (2)]) (rest := [az_i (n)]) rfl rfl rfl ⟨by omega, by omega⟩ (by omega) (lw_bridge htx (d := d - 1) (by omega) H (by omega) (by omega) (by omega) (by constructor <;> omega) (by constructor <;> omega) (by constructor <;> omega) (by constructor <;> omega)) (fun v9 e2 t47 q48 => ?_) (fun E e2 t q => by obtain ⟨_, q, _⟩ := q; cases q)
      obtain ⟨v46, qa, qb, q48⟩ := q48
      cases qa
      rw [qb]
      clear qb
      refine bz_to 0 (pc2 := 79) (lv2 := [some (az_x 0), some (az_r (0)), some (az_i (n)), some (az_i (((k : Nat) : Int)))]) (st2 := [az_i (v46), az_i (n)]) (s2 := t47) (rfl) ?_
      obtain ⟨r49, -, nr49, cr49, Gr49, H50⟩ := lch_s q48
      have h1n := zo_bridge_1 (zkS_R H).2.1
      refine bz_to 4 (pc2 := 83) (lv2 := [some (az_x 0), some (az_r (0)), some (az_i ((n + v46))), some (az_i (0))]) (st2 := []) (s2 := t47) (rfl) ?_
      exact lg_83 htx hd hL _ 0 rfl (by omega) _ H50 (by omega) (by omega) (by omega) (by omega) (by omega) (by omega)
    · have h1 : ¬ (7 ≤ ((k : Nat) : Int)) := h1
      refine bz_to 5 (pc2 := 24) (lv2 := [some (az_x 0), some (az_r (0)), some (az_i (n)), some (az_i (((k : Nat) : Int)))]) (st2 := [az_i (6), az_i (((k : Nat) : Int)), az_x 0, az_r (0), az_i (n)]) (s2 := s) (rfl) ?_
      refine bz_w 27 (N1 := 0) (M1 := 0) (m2 := am_m_L_in) (as := [az_x 0, az_i (((k : Nat) : Int)), az_i (6)]) (rest := [az_r (0), az_i (n)]) rfl rfl rfl ⟨Nat.zero_add _, Nat.zero_add _⟩ (by omega) (lb_in hL (by omega) ⟨by omega, by omega⟩ (n := 6) (by decide)) (fun v e2 t q => ?_) (fun E e2 t q => by obtain ⟨w, _, _, q, _⟩ := q; cases q)
      obtain ⟨w51, aw51, bw51, q1, q2, q3⟩ := q
      cases q1
      rw [q2, q3]
      clear q2 q3
      refine bz_to 0 (pc2 := 27) (lv2 := [some (az_x 0), some (az_r (0)), some (az_i (n)), some (az_i (((k : Nat) : Int)))]) (st2 := [az_i (w51), az_r (0), az_i (n)]) (s2 := s) (rfl) ?_
      refine bz_to 5 (pc2 := 34) (lv2 := [some (az_x 0), some (az_r (0)), some (az_i (n)), some (az_i (((k : Nat) : Int)))]) (st2 := [az_i (6), az_i ((7 + ((k : Nat) : Int))), az_x 0, az_i (w51), az_r (0), az_i (n)]) (s2 := s) (rfl) ?_
      refine bz_w 37 (N1 := 0) (M1 := 0) (m2 := am_m_L_in) (as := [az_x 0, az_i ((7 + ((k : Nat) : Int))), az_i (6)]) (rest := [az_i (w51), az_r (0), az_i (n)]) rfl rfl rfl ⟨Nat.zero_add _, Nat.zero_add _⟩ (by omega) (lb_in hL (by omega) ⟨by omega, by omega⟩ (n := 6) (by decide)) (fun v e2 t q => ?_) (fun E e2 t q => by obtain ⟨w, _, _, q, _⟩ := q; cases q)
      obtain ⟨w52, aw52, bw52, q1, q2, q3⟩ := q
      cases q1
      rw [q2, q3]
      clear q2 q3
      refine bz_to 0 (pc2 := 37) (lv2 := [some (az_x 0), some (az_r (0)), some (az_i (n)), some (az_i (((k : Nat) : Int)))]) (st2 := [az_i (w52), az_i (w51), az_r (0), az_i (n)]) (s2 := s) (rfl) ?_
      refine bz_to 6 (pc2 := 45) (lv2 := [some (az_x 0), some (az_r (0)), some (az_i (n)), some (az_i (((k : Nat) : Int)))]) (st2 := [az_i (9), az_i ((14 + ((k : Nat) : Int))), az_x 0, az_i (1), az_i (w52), az_i (w51), az_r (0), az_i (n)]) (s2 := s) (rfl) ?_
      refine bz_w 48 (N1 := 0) (M1 := 0) (m2 := am_m_L_in) (as := [az_x 0, az_i ((14 + ((k : Nat) : Int))), az_i (9)]) (rest := [az_i (1), az_i (w52), az_i (w51), az_r (0), az_i (n)]) rfl rfl rfl ⟨Nat.zero_add _, Nat.zero_add _⟩ (by omega) (lb_in hL (by omega) ⟨by omega, by omega⟩ (n := 9) (by decide)) (fun v e2 t q => ?_) (fun E e2 t q => by obtain ⟨w, _, _, q, _⟩ := q; cases q)
      obtain ⟨w53, aw53, bw53, q1, q2, q3⟩ := q
      cases q1
      rw [q2, q3]
      clear q2 q3
      refine bz_to 0 (pc2 := 48) (lv2 := [some (az_x 0), some (az_r (0)), some (az_i (n)), some (az_i (((k : Nat) : Int)))]) (st2 := [az_i (w53), az_i (1), az_i (w52), az_i (w51), az_r (0), az_i (n)]) (s2 := s) (rfl) ?_
      refine bz_to 6 (pc2 := 56) (lv2 := [some (az_x 0), some (az_r (0)), some (az_i (n)), some (az_i (((k : Nat) : Int)))]) (st2 := [az_i (10), az_i ((21 + ((k : Nat) : Int))), az_x 0, az_i ((1 + w53)), az_i (w52), az_i (w51), az_r (0), az_i (n)]) (s2 := s) (rfl) ?_
      refine bz_w 59 (N1 := 0) (M1 := 0) (m2 := am_m_L_in) (as := [az_x 0, az_i ((21 + ((k : Nat) : Int))), az_i (10)]) (rest := [az_i ((1 + w53)), az_i (w52), az_i (w51), az_r (0), az_i (n)]) rfl rfl rfl ⟨Nat.zero_add _, Nat.zero_add _⟩ (by omega) (lb_in hL (by omega) ⟨by omega, by omega⟩ (n := 10) (by decide)) (fun v e2 t q => ?_) (fun E e2 t q => by obtain ⟨w, _, _, q, _⟩ := q; cases q)
      obtain ⟨w54, aw54, bw54, q1, q2, q3⟩ := q
      cases q1
      rw [q2, q3]
      clear q2 q3
      refine bz_to 0 (pc2 := 59) (lv2 := [some (az_x 0), some (az_r (0)), some (az_i (n)), some (az_i (((k : Nat) : Int)))]) (st2 := [az_i (w54), az_i ((1 + w53)), az_i (w52), az_i (w51), az_r (0), az_i (n)]) (s2 := s) (rfl) ?_
      refine bz_w 62 (N1 := 1) (M1 := 6) (N2 := N - 1) (M2 := M - 6) (m2 := am_m_L_bridge) (as := [az_r (0), az_i (w51), az_i (w52), az_i ((1 + w53)), az_i (w54)]) (rest := [az_i (n)]) rfl rfl rfl ⟨by omega, by omega⟩ (by omega) (lw_bridge htx (d := d - 1) (by omega) H (by omega) (by omega) (by omega) (by constructor <;> omega) (by constructor <;> omega) (by constructor <;> omega) (by constructor <;> omega)) (fun v9 e2 t56 q57 => ?_) (fun E e2 t q => by obtain ⟨_, q, _⟩ := q; cases q)
      obtain ⟨v55, qa, qb, q57⟩ := q57
      cases qa
      rw [qb]
      clear qb
      refine bz_to 0 (pc2 := 62) (lv2 := [some (az_x 0), some (az_r (0)), some (az_i (n)), some (az_i (((k : Nat) : Int)))]) (st2 := [az_i (v55), az_i (n)]) (s2 := t56) (rfl) ?_
      obtain ⟨r58, -, nr58, cr58, Gr58, H59⟩ := lch_s q57
      refine bz_to 4 (pc2 := 12) (lv2 := [some (az_x 0), some (az_r (0)), some (az_i ((n + v55))), some (az_i ((((k : Nat) : Int) + 1)))]) (st2 := []) (s2 := t56) (rfl) ?_
      exact ih _ (by omega) (k + 1) rfl (by omega) _ H59 (by omega) (by omega) (by omega) (by omega) (by omega)
theorem lg_8 {L : Nat} {xs : Nat → Int32} {tx : Nat → Option String} (htx : ∀ i t, am_sx[i]? = some t → tx i = some t) {d : Nat} (hd : 18 ≤ d) (hL : L < 2147483648) {e : List Nat} {s : az_S} {S : zR} {c : Nat} {G : Nat → zR} {N M : Nat} (H : zkS s S 0 c G) (hN : 50 ≤ N) (hM : 300 ≤ M) : bz_R L xs tx d am_m_L_begun 8 [some (az_x 0), some (az_r 0), none, none] [] e s N M (fun o e2 t => o = .inl (some (az_r 0)) ∧ e2 = e ∧ ∃ (S2 : zR) (h2 c2 : Nat) (G2 : Nat → zR), zkS t S2 h2 c2 G2 ∧ h2 ≤ 100 ∧ 1 ≤ zn S2 0) := by
  refine bz_to 4 (pc2 := 12) (lv2 := [some (az_x 0), some (az_r (0)), some (az_i (0)), some (az_i (0))]) (st2 := []) (s2 := s) (rfl) ?_
  exact lg_12 htx hd hL 7 0 rfl (by omega) 0 H (by omega) (by omega) (by omega) (by omega) (by omega)
