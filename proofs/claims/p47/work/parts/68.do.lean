/-! THE LAW, 8: numbers from the cells, does; written by program (wip/p47tools/l68.py) -/
section BZS
variable {L : Nat} {xs : Nat → Int32} {tx : Nat → Option String} {d : Nat} {mt : am_M1} {pc : Nat} {lv : az_L} {st : List az_V} {e : List Nat} {s : az_S} {N M : Nat} {Q : az_O → List Nat → az_S → Prop}
/-- shifts, bits: some number; with the top bit off it isn't negative -/
theorem bz_ush {x y : Int} {len : Nat} (pc2 : Nat) (hf : am_find pc (am_c mt) = some (.iushr, len)) (hp : pc + len = pc2) (H : ∀ z : Int, bz_R L xs tx d mt pc2 lv (.inl z :: st) e s N M Q) : bz_R L xs tx d mt pc lv (.inl y :: .inl x :: st) e s N M Q := by
  refine bz_step (fun n => am_1s hf ?_) (H ((Int32.ofInt x).toUInt32 >>> ((Int32.ofInt y).toUInt32 &&& Int32.toUInt32 31)).toInt32.toInt)
  simp only [am_simple, List.map_cons, az_e]
  rw [Int32.ofInt_toInt, hp]
theorem bz_xor {x y : Int} {len : Nat} (pc2 : Nat) (hf : am_find pc (am_c mt) = some (.ixor, len)) (hp : pc + len = pc2) (H : ∀ z : Int, bz_R L xs tx d mt pc2 lv (.inl z :: st) e s N M Q) : bz_R L xs tx d mt pc lv (.inl y :: .inl x :: st) e s N M Q := by
  refine bz_step (fun n => am_1s hf ?_) (H (Int32.ofInt x ^^^ Int32.ofInt y).toInt)
  simp only [am_simple, List.map_cons, az_e]
  rw [Int32.ofInt_toInt, hp]
theorem bz_nn (x : Int32) : 0 ≤ (x &&& Int32.ofInt 2147483647).toInt ∧ (x &&& Int32.ofInt 2147483647).toInt < 2147483648 := by
  refine ⟨?_, Int32.toInt_lt _⟩
  show 0 ≤ (x &&& Int32.ofInt 2147483647).toBitVec.toInt
  rw [Int32.toBitVec_and]
  refine BitVec.toInt_nonneg_of_msb_false ?_
  rw [BitVec.msb_and, show (Int32.ofInt 2147483647).toBitVec.msb = false from by decide, Bool.and_false]
theorem bz_and {x : Int} {len : Nat} (pc2 : Nat) (hf : am_find pc (am_c mt) = some (.iand, len)) (hp : pc + len = pc2) (H : ∀ z : Int, 0 ≤ z → z < 2147483648 → bz_R L xs tx d mt pc2 lv (.inl z :: st) e s N M Q) : bz_R L xs tx d mt pc lv (.inl 2147483647 :: .inl x :: st) e s N M Q := by
  refine bz_step (fun n => am_1s hf ?_) (H (Int32.ofInt x &&& Int32.ofInt 2147483647).toInt (bz_nn _).1 (bz_nn _).2)
  simp only [am_simple, List.map_cons, az_e]
  rw [Int32.ofInt_toInt, hp]
end BZS
set_option maxRecDepth 100000 in
theorem lb_cell2 {L : Nat} {xs : Nat → Int32} {tx : Nat → Option String} {d : Nat} {s : az_S} {e : List Nat} {N M : Nat} {i : Int} (x : Int) : bz_R L xs tx d am_m_L_cell 15 [some (az_x 0), some (az_i i), none] [az_i x, az_i (69069)] e s N M (fun o e2 t => ∃ v, o = .inl (some (az_i v)) ∧ e2 = e ∧ t = s) := by
  refine bz_to 11 (pc2 := 31) (lv2 := [some (az_x 0), some (az_i (i)), some (az_i (((69069 * (x + (1009 * i))) + 12345)))]) (st2 := [az_i (13), az_i (((69069 * (x + (1009 * i))) + 12345)), az_i (((69069 * (x + (1009 * i))) + 12345))]) (s2 := s) (rfl) ?_
  refine bz_ush 32 rfl rfl (fun z1 => ?_)
  refine bz_to 0 (pc2 := 32) (lv2 := [some (az_x 0), some (az_i (i)), some (az_i (((69069 * (x + (1009 * i))) + 12345)))]) (st2 := [az_i (z1), az_i (((69069 * (x + (1009 * i))) + 12345))]) (s2 := s) (rfl) ?_
  refine bz_xor 33 rfl rfl (fun z2 => ?_)
  refine bz_to 0 (pc2 := 33) (lv2 := [some (az_x 0), some (az_i (i)), some (az_i (((69069 * (x + (1009 * i))) + 12345)))]) (st2 := [az_i (z2)]) (s2 := s) (rfl) ?_
  refine bz_to 6 (pc2 := 41) (lv2 := [some (az_x 0), some (az_i (i)), some (az_i ((z2 * 1103515245)))]) (st2 := [az_i (16), az_i ((z2 * 1103515245)), az_i ((z2 * 1103515245))]) (s2 := s) (rfl) ?_
  refine bz_ush 42 rfl rfl (fun z3 => ?_)
  refine bz_to 0 (pc2 := 42) (lv2 := [some (az_x 0), some (az_i (i)), some (az_i ((z2 * 1103515245)))]) (st2 := [az_i (z3), az_i ((z2 * 1103515245))]) (s2 := s) (rfl) ?_
  refine bz_xor 43 rfl rfl (fun z4 => ?_)
  refine bz_to 0 (pc2 := 43) (lv2 := [some (az_x 0), some (az_i (i)), some (az_i ((z2 * 1103515245)))]) (st2 := [az_i (z4)]) (s2 := s) (rfl) ?_
  exact bz_retI rfl rfl ⟨_, rfl, rfl, rfl⟩
set_option maxRecDepth 100000 in
theorem lb_cell {L : Nat} {xs : Nat → Int32} {tx : Nat → Option String} {d : Nat} {s : az_S} {e : List Nat} {N M : Nat} {i : Int} (hL : L < 2147483648) (hi : 0 ≤ i ∧ i < 1000) : bz_R L xs tx d am_m_L_cell 0 (az_ini (am_mL am_m_L_cell) [az_x 0, az_i i]) [] e s N M (fun o e2 t => ∃ v, o = .inl (some (az_i v)) ∧ e2 = e ∧ t = s) := by
  refine bz_to 0 (pc2 := 0) (lv2 := [some (az_x 0), some (az_i (i)), none]) (st2 := []) (s2 := s) (rfl) ?_
  refine bz_to 3 (pc2 := 4) (lv2 := [some (az_x 0), some (az_i (i)), none]) (st2 := [az_x 0, az_i (i), az_i (69069)]) (s2 := s) (rfl) ?_
  refine bz_xl 5 rfl rfl ?_
  refine bz_to 0 (pc2 := 5) (lv2 := [some (az_x 0), some (az_i (i)), none]) (st2 := [az_i (((L : Nat) : Int)), az_i (i), az_i (69069)]) (s2 := s) (rfl) ?_
  refine bz_if2 14 8 rfl (by decide) (by first | assumption | exact ⟨by omega, by omega⟩) (by first | assumption | exact ⟨by omega, by omega⟩) (fun h1 => ?_) (fun h1 => ?_)
  · have h1 : ((L : Nat) : Int) ≤ i := h1
    refine bz_to 1 (pc2 := 15) (lv2 := [some (az_x 0), some (az_i (i)), none]) (st2 := [az_i (0), az_i (69069)]) (s2 := s) (rfl) ?_
    exact lb_cell2 _
  · have h1 : ¬ (((L : Nat) : Int) ≤ i) := h1
    refine bz_to 2 (pc2 := 10) (lv2 := [some (az_x 0), some (az_i (i)), none]) (st2 := [az_i (i), az_x 0, az_i (69069)]) (s2 := s) (rfl) ?_
    refine bz_xs 11 rfl ⟨by omega, by omega, hL⟩ rfl ?_
    refine bz_to 0 (pc2 := 11) (lv2 := [some (az_x 0), some (az_i (i)), none]) (st2 := [az_i ((xs i.toNat).toInt), az_i (69069)]) (s2 := s) (rfl) ?_
    refine bz_to 1 (pc2 := 15) (lv2 := [some (az_x 0), some (az_i (i)), none]) (st2 := [az_i ((xs i.toNat).toInt), az_i (69069)]) (s2 := s) (rfl) ?_
    exact lb_cell2 _
set_option maxRecDepth 100000 in
theorem lb_in {L : Nat} {xs : Nat → Int32} {tx : Nat → Option String} {d : Nat} {s : az_S} {e : List Nat} {N M : Nat} {i n : Int} (hL : L < 2147483648) (hd : 0 < d) (hi : 0 ≤ i ∧ i < 1000) (hn : 0 < n ∧ n < 2147483648) : bz_R L xs tx d am_m_L_in 0 (az_ini (am_mL am_m_L_in) [az_x 0, az_i i, az_i n]) [] e s N M (fun o e2 t => ∃ w, 0 ≤ w ∧ w < n ∧ o = .inl (some (az_i w)) ∧ e2 = e ∧ t = s) := by
  refine bz_to 0 (pc2 := 0) (lv2 := [some (az_x 0), some (az_i (i)), some (az_i (n))]) (st2 := []) (s2 := s) (rfl) ?_
  refine bz_to 2 (pc2 := 2) (lv2 := [some (az_x 0), some (az_i (i)), some (az_i (n))]) (st2 := [az_i (i), az_x 0]) (s2 := s) (rfl) ?_
  refine bz_w 5 (N1 := 0) (M1 := 0) (m2 := am_m_L_cell) (as := [az_x 0, az_i (i)]) (rest := []) rfl rfl rfl ⟨Nat.zero_add _, Nat.zero_add _⟩ hd (lb_cell hL hi) (fun v e2 t q => ?_) (fun E e2 t q => by obtain ⟨w, q, _⟩ := q; cases q)
  obtain ⟨w, q1, q2, q3⟩ := q
  cases q1
  rw [q2, q3]
  refine bz_to 0 (pc2 := 5) (lv2 := [some (az_x 0), some (az_i (i)), some (az_i (n))]) (st2 := [az_i (w)]) (s2 := s) (rfl) ?_
  refine bz_to 1 (pc2 := 7) (lv2 := [some (az_x 0), some (az_i (i)), some (az_i (n))]) (st2 := [az_i (2147483647), az_i (w)]) (s2 := s) (rfl) ?_
  refine bz_and 8 rfl rfl (fun z5 az5 bz5 => ?_)
  refine bz_to 0 (pc2 := 8) (lv2 := [some (az_x 0), some (az_i (i)), some (az_i (n))]) (st2 := [az_i (z5)]) (s2 := s) (rfl) ?_
  refine bz_to 1 (pc2 := 9) (lv2 := [some (az_x 0), some (az_i (i)), some (az_i (n))]) (st2 := [az_i (n), az_i (z5)]) (s2 := s) (rfl) ?_
  refine bz_rem 10 rfl (by constructor <;> omega) (by constructor <;> omega) rfl ?_
  refine bz_to 0 (pc2 := 10) (lv2 := [some (az_x 0), some (az_i (i)), some (az_i (n))]) (st2 := [az_i ((z5 % n))]) (s2 := s) (rfl) ?_
  exact bz_retI rfl rfl ⟨_, Int.emod_nonneg _ (by omega), Int.emod_lt_of_pos _ (by omega), rfl, rfl, rfl⟩
/-- k signs typed -/
def ldo (s u : az_S) (ty : String) (k : Nat) : Prop := u 22 1 = 60 ∧ u 22 2 = ((k : Nat) : Int) ∧ (∀ j, j < k → u 24 j = (((ty.toList.getD j ' ').toNat : Nat) : Int)) ∧ ∀ i, i ≠ 22 → i ≠ 24 → u i = s i
def lty (ty : String) (k : Nat) : Int := if k < ty.length then (((ty.toList.getD k ' ').toNat : Nat) : Int) else 0
theorem ldo_T {s u : az_S} {S : zR} {h c : Nat} {G : Nat → zR} {ty : String} (H : zkS s S h c G) (hl : ty.length ≤ 60) (ht : ∀ j, (ty.toList.getD j ' ').toNat < 65536) (D : ldo s u ty ty.length) : zkT u S h c G ty.length (lty ty) := by
  obtain ⟨h1, ⟨p, a1, a2, a3, a4, a5⟩, h3, h4⟩ := H
  obtain ⟨d1, d2, d3, d4⟩ := D
  refine ⟨by rw [d4 3 (by decide) (by decide)]; exact h1, ⟨p, a1, a2, by rw [d4 17 (by decide) (by decide)]; exact a3, by rw [d4 17 (by decide) (by decide)]; exact a4, by rw [d4 19 (by decide) (by decide)]; exact a5⟩, ⟨d1, d2, hl, fun k hk => ?_, fun k hk => ?_, fun k => ?_⟩, by rw [d4 30 (by decide) (by decide)]; exact h4⟩
  · unfold lty
    rw [if_pos hk]
    exact d3 k hk
  · exact if_neg (by omega)
  · unfold lty
    have := ht k
    split <;> omega
theorem ldo_s {s u : az_S} {ty : String} {k : Nat} {ch : Char} (D : ldo s u ty k) (hc : ty.toList.getD k ' ' = ch) : ldo s (am_up (am_up u 24 k ((ch.toNat : Nat) : Int)) 22 2 (((k : Nat) : Int) + 1)) ty (k + 1) := by
  obtain ⟨d1, d2, d3, d4⟩ := D
  refine ⟨d1, by show ((k : Nat) : Int) + 1 = _; omega, fun j hj => ?_, fun i h1 h2 => ?_⟩
  · simp only [am_up]
    rw [if_neg (by omega)]
    by_cases q : j = k
    · rw [q, hc]
      simp
    · simp only [q, and_false, if_false]
      exact d3 j (by omega)
  · funext j
    simp only [am_up]
    rw [if_neg (by omega), if_neg (by omega)]
    rw [d4 i h1 h2]
theorem lch_ldo {s u t : az_S} {S S2 : zR} {h h2 n : Nat} {v : Int} {ty : String} (D : ldo s u ty n) (P : lch u t S S2 h h2 v) : lch s t S S2 h h2 v := by
  obtain ⟨-, -, -, d4⟩ := D
  obtain ⟨⟨a1, a2, a3⟩, P2⟩ := P
  exact ⟨⟨fun i hi => (a1 i hi).trans (d4 i (by omega) (by omega)), a2.trans (d4 21 (by decide) (by decide)), a3.trans (by rw [d4 0 (by decide) (by decide)])⟩, P2⟩
set_option maxRecDepth 100000 in
theorem lb_does_L {L : Nat} {xs : Nat → Int32} {tx : Nat → Option String} (htx : ∀ i t, am_sx[i]? = some t → tx i = some t) {d : Nat} (hd : 16 ≤ d) {s : az_S} {S : zR} {h c : Nat} {G : Nat → zR} (H : zkS s S h c G) (hh : h + 10 ≤ 10000) {e : List Nat} {N M : Nat} (hN : 1 ≤ N) (hM : 6 ≤ M) {ty : String} (ht : tx 999 = some ty) (hl : ty.length ≤ 60) (hch : ∀ j, (ty.toList.getD j ' ').toNat < 65536) : ∀ (mq k : Nat) (n : Int), mq = ty.length - k → k ≤ ty.length → 0 ≤ n → n ≤ 60 * k → ∀ {u : az_S}, ldo s u ty k → bz_R L xs tx d am_m_L_does 4 [some (az_r 0), some (az_x 1000), some (az_i n), some (az_i ((k : Nat) : Int))] [] e u N M (fun o e2 t => ∃ v S2, o = .inl (some (az_i v)) ∧ e2 = e ∧ lch s t S S2 h (h + 10) v) := by
  intro mq
  induction mq using Nat.strongRecOn with
  | _ mq ih =>
    intro k n hm hk hn0 hn1 u D
    subst hm
    refine bz_to 2 (pc2 := 6) (lv2 := [some (az_r (0)), some (az_x 1000), some (az_i (n)), some (az_i (((k : Nat) : Int)))]) (st2 := [az_x 1000, az_i (((k : Nat) : Int))]) (s2 := u) (rfl) ?_
    refine bz_tl (i := 999) 9 rfl rfl ⟨rfl, show (1 : Nat) ≤ 8 by decide, rfl⟩ ht ?_
    refine bz_to 0 (pc2 := 9) (lv2 := [some (az_r (0)), some (az_x 1000), some (az_i (n)), some (az_i (((k : Nat) : Int)))]) (st2 := [az_i (((ty.length : Nat) : Int)), az_i (((k : Nat) : Int))]) (s2 := u) (rfl) ?_
    refine bz_if2 30 12 rfl (by decide) (by first | assumption | exact ⟨by omega, by omega⟩) (by first | assumption | exact ⟨by omega, by omega⟩) (fun h1 => ?_) (fun h1 => ?_)
    · have h1 : ((ty.length : Nat) : Int) ≤ ((k : Nat) : Int) := h1
      refine bz_to 1 (pc2 := 31) (lv2 := [some (az_r (0)), some (az_x 1000), some (az_i (n)), some (az_i (((k : Nat) : Int)))]) (st2 := [az_i (n)]) (s2 := u) (rfl) ?_
      refine bz_ifc 38 34 rfl (by decide) (by first | assumption | exact ⟨by omega, by omega⟩) (fun _ => ?_) (fun h9 => absurd (show az_cnd _ _ _ by unfold az_cnd; omega) h9)
      refine bz_to 1 (pc2 := 39) (lv2 := [some (az_r (0)), some (az_x 1000), some (az_i (n)), some (az_i (((k : Nat) : Int)))]) (st2 := [az_r (0)]) (s2 := u) (rfl) ?_
      have hkn : k = ty.length := by omega
      subst hkn
      refine bz_w 42 (N1 := N) (M1 := M) (N2 := 0) (M2 := 0) (m2 := am_m_L_read) (as := [az_r (0)]) (rest := []) rfl rfl rfl ⟨rfl, rfl⟩ (by omega) (lw_read htx (d := d - 1) (by omega) (ldo_T H hl hch D) hh hN hM) (fun v e2 t q => ?_) (fun E e2 t q => by obtain ⟨_, _, q, _⟩ := q; cases q)
      obtain ⟨v, S2, q1, q2, q3⟩ := q
      cases q1
      exact bz_retI rfl rfl ⟨v, S2, rfl, q2, lch_ldo D q3⟩
    · have h1 : ¬ (((ty.length : Nat) : Int) ≤ ((k : Nat) : Int)) := h1
      refine bz_to 4 (pc2 := 16) (lv2 := [some (az_r (0)), some (az_x 1000), some (az_i (n)), some (az_i (((k : Nat) : Int)))]) (st2 := [az_i (((k : Nat) : Int)), az_x 1000, az_r (0), az_i (n)]) (s2 := u) (rfl) ?_
      have hg : ty.toList[k]? = some (ty.toList.getD k ' ') := by rw [List.getD_eq_getElem?_getD, List.getElem?_eq_getElem (show k < ty.toList.length by rw [String.length_toList]; omega)]; rfl
      refine bz_tc (i := 999) (ch := ty.toList.getD k ' ') 19 rfl rfl ⟨rfl, show (2 : Nat) ≤ 8 by decide, rfl⟩ ht ⟨by omega, by omega, by omega⟩ hg ?_
      refine bz_to 0 (pc2 := 19) (lv2 := [some (az_r (0)), some (az_x 1000), some (az_i (n)), some (az_i (((k : Nat) : Int)))]) (st2 := [az_i ((((ty.toList.getD k ' ').toNat : Nat) : Int)), az_r (0), az_i (n)]) (s2 := u) (rfl) ?_
      refine bz_cq htx 22 (m2 := am_m_X9_type) (as := [az_r (0), az_i ((((ty.toList.getD k ' ').toNat : Nat) : Int))]) (rest := [az_i (n)]) rfl rfl rfl (by omega) (zs_X9_type_y (by omega) D.1 D.2.1 (by omega)) (fun v t q => ?_) (fun E t q => by cases q.1)
      obtain ⟨q1, q2⟩ := q
      cases q1
      rw [q2]
      refine bz_to 0 (pc2 := 22) (lv2 := [some (az_r (0)), some (az_x 1000), some (az_i (n)), some (az_i (((k : Nat) : Int)))]) (st2 := [az_i ((((k + 1) : Nat) : Int)), az_i (n)]) (s2 := am_up (am_up u 24 k (((ty.toList.getD k ' ').toNat : Nat) : Int)) 22 2 (((k : Nat) : Int) + 1)) (rfl) ?_
      refine bz_to 4 (pc2 := 4) (lv2 := [some (az_r (0)), some (az_x 1000), some (az_i ((n + (((k + 1) : Nat) : Int)))), some (az_i ((((k : Nat) : Int) + 1)))]) (st2 := []) (s2 := am_up (am_up u 24 k (((ty.toList.getD k ' ').toNat : Nat) : Int)) 22 2 (((k : Nat) : Int) + 1)) (rfl) ?_
      exact ih (ty.length - (k + 1)) (by omega) (k + 1) _ rfl (by omega) (by omega) (by omega) (ldo_s D rfl)
set_option maxRecDepth 100000 in
theorem lb_does {L : Nat} {xs : Nat → Int32} {tx : Nat → Option String} (htx : ∀ i t, am_sx[i]? = some t → tx i = some t) {d : Nat} (hd : 16 ≤ d) {s : az_S} {S : zR} {h c : Nat} {G : Nat → zR} (H : zkS s S h c G) (hh : h + 10 ≤ 10000) {e : List Nat} {N M : Nat} (hN : 1 ≤ N) (hM : 6 ≤ M) {ty : String} (ht : tx 999 = some ty) (hl : ty.length ≤ 60) (hch : ∀ j, (ty.toList.getD j ' ').toNat < 65536) : bz_R L xs tx d am_m_L_does 0 (az_ini (am_mL am_m_L_does) [az_r 0, az_x 1000]) [] e s N M (fun o e2 t => ∃ v S2, o = .inl (some (az_i v)) ∧ e2 = e ∧ lch s t S S2 h (h + 10) v) := by
  refine bz_to 0 (pc2 := 0) (lv2 := [some (az_r (0)), some (az_x 1000), none, none]) (st2 := []) (s2 := s) (rfl) ?_
  refine bz_to 4 (pc2 := 4) (lv2 := [some (az_r (0)), some (az_x 1000), some (az_i (0)), some (az_i (0))]) (st2 := []) (s2 := s) (rfl) ?_
  exact lb_does_L htx hd H hh hN hM ht hl hch _ 0 0 rfl (by omega) (by omega) (by omega) ⟨H.2.2.1.1, H.2.2.1.2, fun j hj => absurd hj (by omega), fun _ _ _ => rfl⟩
