/-! THE LAW, 9: acts; written by program (wip/p47tools/l69.py) -/
theorem lch_up {s t : az_S} {S S2 : zR} {h h2 h3 : Nat} {v : Int} (P : lch s t S S2 h h2 v) (hl : h2 ≤ h3) : lch s t S S2 h h3 v := by
  obtain ⟨P1, P2, P3⟩ := P
  refine ⟨P1, P2, ?_⟩
  rcases P3 with ⟨a1, a2, c2, G2, a3, a4⟩ | ⟨a1, a2, a3, c2, G2, a4⟩
  · exact Or.inl ⟨a1, a2, c2, G2, zkS_up a3 hl, a4⟩
  · exact Or.inr ⟨a1, a2, a3, c2, G2, zkS_up a4 hl⟩
/-- a text's length and signs are small -/
def lok (t : String) (n : Nat) : Prop := t.length ≤ n ∧ ∀ c, c ∈ t.toList → c.toNat < 65536
theorem lok_a {a b : String} {n m : Nat} (h1 : lok a n) (h2 : lok b m) : lok (a ++ b) (n + m) := by
  refine ⟨by rw [String.length_append]; exact Nat.add_le_add h1.1 h2.1, fun c hc => ?_⟩
  rw [String.toList_append] at hc
  rcases List.mem_append.mp hc with q | q
  · exact h1.2 c q
  · exact h2.2 c q
theorem lok_1 {k : Nat} (hk : k < 10) : lok (String.singleton (Char.ofNat (48 + k))) 1 := by
  have e : (String.singleton (Char.ofNat (48 + k))).toList = [Char.ofNat (48 + k)] := String.toList_singleton _
  refine ⟨by rw [← String.length_toList, e]; exact Nat.le_refl 1, fun c hc => ?_⟩
  rw [e] at hc
  have hc2 := List.mem_singleton.mp hc
  have : k = 0 ∨ k = 1 ∨ k = 2 ∨ k = 3 ∨ k = 4 ∨ k = 5 ∨ k = 6 ∨ k = 7 ∨ k = 8 ∨ k = 9 := by omega
  rcases this with rfl | rfl | rfl | rfl | rfl | rfl | rfl | rfl | rfl | rfl <;> (rw [hc2]; decide)
theorem lok_d {n : Nat} (hn : n < 100) : lok (am_dg n) 2 := by
  unfold am_dg
  split
  · rename_i q
    exact ⟨Nat.le_trans (lok_1 q).1 (by decide), (lok_1 q).2⟩
  · exact lok_a (lok_1 (by omega)) (lok_1 (by omega))
theorem lok_l {t : String} {n : Nat} (h1 : t.length ≤ n) (h2 : t.toList.all (fun c => decide (c.toNat < 65536)) = true) : lok t n := ⟨h1, fun c hc => by
  have := List.all_eq_true.mp h2 c hc
  exact of_decide_eq_true this⟩
theorem lok_text {a b c : Nat} (ha : a < 7) (hb : b < 9) (hc : c < 11) : lok (am_text a b c) 60 := by
  have da := lok_d (n := a) (by omega)
  have db := lok_d (n := b) (by omega)
  have dc := lok_d (n := c) (by omega)
  have w1 : lok "post " 5 := lok_l (by decide) (by decide)
  have w2 : lok " " 1 := lok_l (by decide) (by decide)
  have w3 : lok ";pass " 6 := lok_l (by decide) (by decide)
  have w4 : lok ";cross " 7 := lok_l (by decide) (by decide)
  have w5 : lok ";fog " 5 := lok_l (by decide) (by decide)
  have w6 : lok ";settle " 8 := lok_l (by decide) (by decide)
  have w7 : lok "+" 1 := lok_l (by decide) (by decide)
  have up : ∀ {t : String} {n m : Nat}, lok t n → n ≤ m → lok t m := fun h q => ⟨Nat.le_trans h.1 q, h.2⟩
  have k1 := lok_a (lok_a (lok_a w1 da) w2) db
  unfold am_text
  split
  · exact up (lok_a k1 (lok_a w3 dc)) (by decide)
  split
  · exact up (lok_a k1 (lok_a (lok_a (lok_a w4 da) w2) db)) (by decide)
  · exact up (lok_a k1 (lok_a (lok_a (lok_a (lok_a (lok_a (lok_a w5 db) w2) dc) w6) db) w7)) (by decide)
theorem lok_g {t : String} {n : Nat} (h : lok t n) (j : Nat) : (t.toList.getD j ' ').toNat < 65536 := by
  rw [List.getD_eq_getElem?_getD]
  cases q : t.toList[j]? with
  | none => decide
  | some c => exact h.2 c (List.mem_of_getElem? q)
theorem am_txu_sx {tx : Nat → Option String} (htx : ∀ i t, am_sx[i]? = some t → tx i = some t) (T : String) : ∀ i t, am_sx[i]? = some t → am_txu tx T i = some t := fun i t hi => by
  unfold am_txu
  rw [if_neg (fun q => by
    rw [q] at hi
    have : am_sx[999]? = none := List.getElem?_eq_none (by decide)
    rw [this] at hi
    cases hi)]
  exact htx i t hi
set_option maxRecDepth 100000 in
set_option maxHeartbeats 1600000 in
theorem lb_acts {L : Nat} {xs : Nat → Int32} {tx : Nat → Option String} (htx : ∀ i t, am_sx[i]? = some t → tx i = some t) {d : Nat} (hd : 18 ≤ d) (hL : L < 2147483648) {s : az_S} {S : zR} {h c : Nat} {G : Nat → zR} (H : zkS s S h c G) (hh : h ≤ 8000) {e : List Nat} {N M : Nat} (hN : 25 ≤ N) (hM : 4006 ≤ M) {i : Int} (hi : 0 ≤ i ∧ i ≤ 900) : bz_R L xs tx d am_m_L_acts 0 (az_ini (am_mL am_m_L_acts) [az_r 0, az_x 0, az_i i]) [] e s N M (fun o e2 t => ∃ v S2, o = .inl (some (az_i v)) ∧ e2 = e ∧ lch s t S S2 h (h + 11) v) := by
  refine bz_to 0 (pc2 := 0) (lv2 := [some (az_r (0)), some (az_x 0), some (az_i (i)), none, none, none]) (st2 := []) (s2 := s) (rfl) ?_
  refine bz_to 5 (pc2 := 6) (lv2 := [some (az_r (0)), some (az_x 0), some (az_i (i)), none, none, none]) (st2 := [az_i (7), az_i ((i + 1)), az_x 0]) (s2 := s) (rfl) ?_
  refine bz_w 9 (N1 := 0) (M1 := 0) (m2 := am_m_L_in) (as := [az_x 0, az_i ((i + 1)), az_i (7)]) (rest := []) rfl rfl rfl ⟨Nat.zero_add _, Nat.zero_add _⟩ (by omega) (lb_in hL (by omega) (by omega) (n := 7) (by decide)) (fun v e2 t q => ?_) (fun E e2 t q => by obtain ⟨w, _, _, q, _⟩ := q; cases q)
  obtain ⟨w6, aw6, bw6, q1, q2, q3⟩ := q
  cases q1
  rw [q2, q3]
  clear q2 q3
  refine bz_to 0 (pc2 := 9) (lv2 := [some (az_r (0)), some (az_x 0), some (az_i (i)), none, none, none]) (st2 := [az_i (w6)]) (s2 := s) (rfl) ?_
  refine bz_to 6 (pc2 := 16) (lv2 := [some (az_r (0)), some (az_x 0), some (az_i (i)), some (az_i (w6)), none, none]) (st2 := [az_i (9), az_i ((i + 2)), az_x 0]) (s2 := s) (rfl) ?_
  refine bz_w 19 (N1 := 0) (M1 := 0) (m2 := am_m_L_in) (as := [az_x 0, az_i ((i + 2)), az_i (9)]) (rest := []) rfl rfl rfl ⟨Nat.zero_add _, Nat.zero_add _⟩ (by omega) (lb_in hL (by omega) (by omega) (n := 9) (by decide)) (fun v e2 t q => ?_) (fun E e2 t q => by obtain ⟨w, _, _, q, _⟩ := q; cases q)
  obtain ⟨w7, aw7, bw7, q1, q2, q3⟩ := q
  cases q1
  rw [q2, q3]
  clear q2 q3
  refine bz_to 0 (pc2 := 19) (lv2 := [some (az_r (0)), some (az_x 0), some (az_i (i)), some (az_i (w6)), none, none]) (st2 := [az_i (w7)]) (s2 := s) (rfl) ?_
  refine bz_to 6 (pc2 := 27) (lv2 := [some (az_r (0)), some (az_x 0), some (az_i (i)), some (az_i (w6)), some (az_i (w7)), none]) (st2 := [az_i (11), az_i ((i + 3)), az_x 0]) (s2 := s) (rfl) ?_
  refine bz_w 30 (N1 := 0) (M1 := 0) (m2 := am_m_L_in) (as := [az_x 0, az_i ((i + 3)), az_i (11)]) (rest := []) rfl rfl rfl ⟨Nat.zero_add _, Nat.zero_add _⟩ (by omega) (lb_in hL (by omega) (by omega) (n := 11) (by decide)) (fun v e2 t q => ?_) (fun E e2 t q => by obtain ⟨w, _, _, q, _⟩ := q; cases q)
  obtain ⟨w8, aw8, bw8, q1, q2, q3⟩ := q
  cases q1
  rw [q2, q3]
  clear q2 q3
  refine bz_to 0 (pc2 := 30) (lv2 := [some (az_r (0)), some (az_x 0), some (az_i (i)), some (az_i (w6)), some (az_i (w7)), none]) (st2 := [az_i (w8)]) (s2 := s) (rfl) ?_
  refine bz_to 4 (pc2 := 36) (lv2 := [some (az_r (0)), some (az_x 0), some (az_i (i)), some (az_i (w6)), some (az_i (w7)), some (az_i (w8))]) (st2 := [az_i (26), az_i (i), az_x 0]) (s2 := s) (rfl) ?_
  refine bz_w 39 (N1 := 0) (M1 := 0) (m2 := am_m_L_in) (as := [az_x 0, az_i (i), az_i (26)]) (rest := []) rfl rfl rfl ⟨Nat.zero_add _, Nat.zero_add _⟩ (by omega) (lb_in hL (by omega) (by omega) (n := 26) (by decide)) (fun v e2 t q => ?_) (fun E e2 t q => by obtain ⟨w, _, _, q, _⟩ := q; cases q)
  obtain ⟨w9, aw9, bw9, q1, q2, q3⟩ := q
  cases q1
  rw [q2, q3]
  clear q2 q3
  refine bz_to 0 (pc2 := 39) (lv2 := [some (az_r (0)), some (az_x 0), some (az_i (i)), some (az_i (w6)), some (az_i (w7)), some (az_i (w8))]) (st2 := [az_i (w9)]) (s2 := s) (rfl) ?_
  have hc9 : w9 = 0 ∨ w9 = 1 ∨ w9 = 2 ∨ w9 = 3 ∨ w9 = 4 ∨ w9 = 5 ∨ w9 = 6 ∨ w9 = 7 ∨ w9 = 8 ∨ w9 = 9 ∨ w9 = 10 ∨ w9 = 11 ∨ w9 = 12 ∨ w9 = 13 ∨ w9 = 14 ∨ w9 = 15 ∨ w9 = 16 ∨ w9 = 17 ∨ w9 = 18 ∨ w9 = 19 ∨ w9 = 20 ∨ w9 = 21 ∨ 22 ≤ w9 := by omega
  rcases hc9 with rfl | rfl | rfl | rfl | rfl | rfl | rfl | rfl | rfl | rfl | rfl | rfl | rfl | rfl | rfl | rfl | rfl | rfl | rfl | rfl | rfl | rfl | hdf
  · refine bz_swc 140 rfl ⟨by decide, by decide⟩ (by decide) (off := 101) rfl (by decide) ?_
    refine bz_to 0 (pc2 := 140) (lv2 := [some (az_r (0)), some (az_x 0), some (az_i (i)), some (az_i (w6)), some (az_i (w7)), some (az_i (w8))]) (st2 := []) (s2 := s) (rfl) ?_
    refine bz_to 4 (pc2 := 146) (lv2 := [some (az_r (0)), some (az_x 0), some (az_i (i)), some (az_i (w6)), some (az_i (w7)), some (az_i (w8))]) (st2 := [az_i (7), az_i (w8), az_i (w6), az_r (0)]) (s2 := s) (rfl) ?_
    refine bz_rem 147 rfl (by constructor <;> omega) (by constructor <;> omega) rfl ?_
    refine bz_to 0 (pc2 := 147) (lv2 := [some (az_r (0)), some (az_x 0), some (az_i (i)), some (az_i (w6)), some (az_i (w7)), some (az_i (w8))]) (st2 := [az_i ((w8 % 7)), az_i (w6), az_r (0)]) (s2 := s) (rfl) ?_
    refine bz_to 2 (pc2 := 151) (lv2 := [some (az_r (0)), some (az_x 0), some (az_i (i)), some (az_i (w6)), some (az_i (w7)), some (az_i (w8))]) (st2 := [az_i (w8), az_i (w7), az_i ((w8 % 7)), az_i (w6), az_r (0)]) (s2 := s) (rfl) ?_
    refine bz_w 154 (N1 := N) (M1 := M) (N2 := 0) (M2 := 0) (m2 := am_m_L_bridge) (as := [az_r (0), az_i (w6), az_i ((w8 % 7)), az_i (w7), az_i (w8)]) (rest := []) rfl rfl rfl ⟨by omega, by omega⟩ (by omega) (lw_bridge htx (d := d - 1) (by omega) H (by omega) (by omega) (by omega) (by constructor <;> omega) (by constructor <;> omega) (by constructor <;> omega) (by constructor <;> omega)) (fun v9 e2 t11 q12 => ?_) (fun E e2 t q => by obtain ⟨_, q, _⟩ := q; cases q)
    obtain ⟨v10, q1, q2, q12⟩ := q12
    cases q1
    rw [q2]
    clear q2
    refine bz_to 0 (pc2 := 154) (lv2 := [some (az_r (0)), some (az_x 0), some (az_i (i)), some (az_i (w6)), some (az_i (w7)), some (az_i (w8))]) (st2 := [az_i (v10)]) (s2 := t11) (rfl) ?_
    exact bz_retI rfl rfl ⟨_, _, rfl, rfl, lch_up q12 (by omega)⟩
  · refine bz_swc 155 rfl ⟨by decide, by decide⟩ (by decide) (off := 116) rfl (by decide) ?_
    refine bz_to 0 (pc2 := 155) (lv2 := [some (az_r (0)), some (az_x 0), some (az_i (i)), some (az_i (w6)), some (az_i (w7)), some (az_i (w8))]) (st2 := []) (s2 := s) (rfl) ?_
    refine bz_to 1 (pc2 := 157) (lv2 := [some (az_r (0)), some (az_x 0), some (az_i (i)), some (az_i (w6)), some (az_i (w7)), some (az_i (w8))]) (st2 := [az_i (w7)]) (s2 := s) (rfl) ?_
    refine bz_ifc 167 160 rfl (by decide) (by first | assumption | exact ⟨by omega, by omega⟩) (fun h13 => ?_) (fun h13 => ?_)
    · have h13 : ¬ w7 = 0 := h13
      refine bz_to 5 (pc2 := 174) (lv2 := [some (az_r (0)), some (az_x 0), some (az_i (i)), some (az_i (w6)), some (az_i (w7)), some (az_i (w8))]) (st2 := [az_i ((9 * w8)), az_i (w6), az_r (0)]) (s2 := s) (rfl) ?_
      refine bz_w 177 (N1 := N) (M1 := M) (N2 := 0) (M2 := 0) (m2 := am_m_L_goat) (as := [az_r (0), az_i (w6), az_i ((9 * w8))]) (rest := []) rfl rfl rfl ⟨by omega, by omega⟩ (by omega) (lw_goat htx (d := d - 1) (by omega) H (by omega) (by omega) (by omega) (by constructor <;> omega) (by constructor <;> omega)) (fun v9 e2 t15 q16 => ?_) (fun E e2 t q => by obtain ⟨_, q, _⟩ := q; cases q)
      obtain ⟨v14, q1, q2, q16⟩ := q16
      cases q1
      rw [q2]
      clear q2
      refine bz_to 0 (pc2 := 177) (lv2 := [some (az_r (0)), some (az_x 0), some (az_i (i)), some (az_i (w6)), some (az_i (w7)), some (az_i (w8))]) (st2 := [az_i (v14)]) (s2 := t15) (rfl) ?_
      exact bz_retI rfl rfl ⟨_, _, rfl, rfl, lch_up q16 (by omega)⟩
    · have h13 : w7 = 0 := Decidable.not_not.mp h13
      refine bz_to 1 (pc2 := 161) (lv2 := [some (az_r (0)), some (az_x 0), some (az_i (i)), some (az_i (w6)), some (az_i (w7)), some (az_i (w8))]) (st2 := [az_r (0)]) (s2 := s) (rfl) ?_
      refine bz_w 164 (N1 := N) (M1 := M) (N2 := 0) (M2 := 0) (m2 := am_m_L_troll) (as := [az_r (0)]) (rest := []) rfl rfl rfl ⟨by omega, by omega⟩ (by omega) (lw_troll htx (d := d - 1) (by omega) H (by omega) (by omega) (by omega) ) (fun v9 e2 t18 q19 => ?_) (fun E e2 t q => by obtain ⟨_, q, _⟩ := q; cases q)
      obtain ⟨v17, q1, q2, q19⟩ := q19
      cases q1
      rw [q2]
      clear q2
      refine bz_to 0 (pc2 := 164) (lv2 := [some (az_r (0)), some (az_x 0), some (az_i (i)), some (az_i (w6)), some (az_i (w7)), some (az_i (w8))]) (st2 := [az_i (v17)]) (s2 := t18) (rfl) ?_
      refine bz_to 1 (pc2 := 177) (lv2 := [some (az_r (0)), some (az_x 0), some (az_i (i)), some (az_i (w6)), some (az_i (w7)), some (az_i (w8))]) (st2 := [az_i (v17)]) (s2 := t18) (rfl) ?_
      exact bz_retI rfl rfl ⟨_, _, rfl, rfl, lch_up q19 (by omega)⟩
  · refine bz_swc 178 rfl ⟨by decide, by decide⟩ (by decide) (off := 139) rfl (by decide) ?_
    refine bz_to 0 (pc2 := 178) (lv2 := [some (az_r (0)), some (az_x 0), some (az_i (i)), some (az_i (w6)), some (az_i (w7)), some (az_i (w8))]) (st2 := []) (s2 := s) (rfl) ?_
    refine bz_to 3 (pc2 := 182) (lv2 := [some (az_r (0)), some (az_x 0), some (az_i (i)), some (az_i (w6)), some (az_i (w7)), some (az_i (w8))]) (st2 := [az_i (w7), az_i (w6), az_r (0)]) (s2 := s) (rfl) ?_
    refine bz_w 185 (N1 := N) (M1 := M) (N2 := 0) (M2 := 0) (m2 := am_m_L_post) (as := [az_r (0), az_i (w6), az_i (w7)]) (rest := []) rfl rfl rfl ⟨by omega, by omega⟩ (by omega) (lw_post htx (d := d - 1) (by omega) H (by omega) (by omega) (by omega) (by constructor <;> omega) (by constructor <;> omega)) (fun v9 e2 t21 q22 => ?_) (fun E e2 t q => by obtain ⟨_, q, _⟩ := q; cases q)
    obtain ⟨v20, q1, q2, q22⟩ := q22
    cases q1
    rw [q2]
    clear q2
    refine bz_to 0 (pc2 := 185) (lv2 := [some (az_r (0)), some (az_x 0), some (az_i (i)), some (az_i (w6)), some (az_i (w7)), some (az_i (w8))]) (st2 := [az_i (v20)]) (s2 := t21) (rfl) ?_
    exact bz_retI rfl rfl ⟨_, _, rfl, rfl, lch_up q22 (by omega)⟩
  · refine bz_swc 178 rfl ⟨by decide, by decide⟩ (by decide) (off := 139) rfl (by decide) ?_
    refine bz_to 0 (pc2 := 178) (lv2 := [some (az_r (0)), some (az_x 0), some (az_i (i)), some (az_i (w6)), some (az_i (w7)), some (az_i (w8))]) (st2 := []) (s2 := s) (rfl) ?_
    refine bz_to 3 (pc2 := 182) (lv2 := [some (az_r (0)), some (az_x 0), some (az_i (i)), some (az_i (w6)), some (az_i (w7)), some (az_i (w8))]) (st2 := [az_i (w7), az_i (w6), az_r (0)]) (s2 := s) (rfl) ?_
    refine bz_w 185 (N1 := N) (M1 := M) (N2 := 0) (M2 := 0) (m2 := am_m_L_post) (as := [az_r (0), az_i (w6), az_i (w7)]) (rest := []) rfl rfl rfl ⟨by omega, by omega⟩ (by omega) (lw_post htx (d := d - 1) (by omega) H (by omega) (by omega) (by omega) (by constructor <;> omega) (by constructor <;> omega)) (fun v9 e2 t24 q25 => ?_) (fun E e2 t q => by obtain ⟨_, q, _⟩ := q; cases q)
    obtain ⟨v23, q1, q2, q25⟩ := q25
    cases q1
    rw [q2]
    clear q2
    refine bz_to 0 (pc2 := 185) (lv2 := [some (az_r (0)), some (az_x 0), some (az_i (i)), some (az_i (w6)), some (az_i (w7)), some (az_i (w8))]) (st2 := [az_i (v23)]) (s2 := t24) (rfl) ?_
    exact bz_retI rfl rfl ⟨_, _, rfl, rfl, lch_up q25 (by omega)⟩
  · refine bz_swc 178 rfl ⟨by decide, by decide⟩ (by decide) (off := 139) rfl (by decide) ?_
    refine bz_to 0 (pc2 := 178) (lv2 := [some (az_r (0)), some (az_x 0), some (az_i (i)), some (az_i (w6)), some (az_i (w7)), some (az_i (w8))]) (st2 := []) (s2 := s) (rfl) ?_
    refine bz_to 3 (pc2 := 182) (lv2 := [some (az_r (0)), some (az_x 0), some (az_i (i)), some (az_i (w6)), some (az_i (w7)), some (az_i (w8))]) (st2 := [az_i (w7), az_i (w6), az_r (0)]) (s2 := s) (rfl) ?_
    refine bz_w 185 (N1 := N) (M1 := M) (N2 := 0) (M2 := 0) (m2 := am_m_L_post) (as := [az_r (0), az_i (w6), az_i (w7)]) (rest := []) rfl rfl rfl ⟨by omega, by omega⟩ (by omega) (lw_post htx (d := d - 1) (by omega) H (by omega) (by omega) (by omega) (by constructor <;> omega) (by constructor <;> omega)) (fun v9 e2 t27 q28 => ?_) (fun E e2 t q => by obtain ⟨_, q, _⟩ := q; cases q)
    obtain ⟨v26, q1, q2, q28⟩ := q28
    cases q1
    rw [q2]
    clear q2
    refine bz_to 0 (pc2 := 185) (lv2 := [some (az_r (0)), some (az_x 0), some (az_i (i)), some (az_i (w6)), some (az_i (w7)), some (az_i (w8))]) (st2 := [az_i (v26)]) (s2 := t27) (rfl) ?_
    exact bz_retI rfl rfl ⟨_, _, rfl, rfl, lch_up q28 (by omega)⟩
  · refine bz_swc 186 rfl ⟨by decide, by decide⟩ (by decide) (off := 147) rfl (by decide) ?_
    refine bz_to 0 (pc2 := 186) (lv2 := [some (az_r (0)), some (az_x 0), some (az_i (i)), some (az_i (w6)), some (az_i (w7)), some (az_i (w8))]) (st2 := []) (s2 := s) (rfl) ?_
    refine bz_to 2 (pc2 := 188) (lv2 := [some (az_r (0)), some (az_x 0), some (az_i (i)), some (az_i (w6)), some (az_i (w7)), some (az_i (w8))]) (st2 := [az_i (w6), az_r (0)]) (s2 := s) (rfl) ?_
    refine bz_w 191 (N1 := N) (M1 := M) (N2 := 0) (M2 := 0) (m2 := am_m_L_leave) (as := [az_r (0), az_i (w6)]) (rest := []) rfl rfl rfl ⟨by omega, by omega⟩ (by omega) (lw_leave htx (d := d - 1) (by omega) H (by omega) (by omega) (by omega) (by constructor <;> omega)) (fun v9 e2 t30 q31 => ?_) (fun E e2 t q => by obtain ⟨_, q, _⟩ := q; cases q)
    obtain ⟨v29, q1, q2, q31⟩ := q31
    cases q1
    rw [q2]
    clear q2
    refine bz_to 0 (pc2 := 191) (lv2 := [some (az_r (0)), some (az_x 0), some (az_i (i)), some (az_i (w6)), some (az_i (w7)), some (az_i (w8))]) (st2 := [az_i (v29)]) (s2 := t30) (rfl) ?_
    exact bz_retI rfl rfl ⟨_, _, rfl, rfl, lch_up q31 (by omega)⟩
  · refine bz_swc 192 rfl ⟨by decide, by decide⟩ (by decide) (off := 153) rfl (by decide) ?_
    refine bz_to 0 (pc2 := 192) (lv2 := [some (az_r (0)), some (az_x 0), some (az_i (i)), some (az_i (w6)), some (az_i (w7)), some (az_i (w8))]) (st2 := []) (s2 := s) (rfl) ?_
    refine bz_to 4 (pc2 := 198) (lv2 := [some (az_r (0)), some (az_x 0), some (az_i (i)), some (az_i (w6)), some (az_i (w7)), some (az_i (w8))]) (st2 := [az_i (w8), az_i (w7), az_i (w6), az_r (0)]) (s2 := s) (rfl) ?_
    refine bz_w 201 (N1 := N) (M1 := M) (N2 := 0) (M2 := 0) (m2 := am_m_L_riddle) (as := [az_r (0), az_i (w6), az_i (w7), az_i (w8)]) (rest := []) rfl rfl rfl ⟨by omega, by omega⟩ (by omega) (lw_riddle htx (d := d - 1) (by omega) H (by omega) (by omega) (by omega) (by constructor <;> omega) (by constructor <;> omega) (by constructor <;> omega)) (fun v9 e2 t33 q34 => ?_) (fun E e2 t q => by obtain ⟨_, q, _⟩ := q; cases q)
    obtain ⟨v32, q1, q2, q34⟩ := q34
    cases q1
    rw [q2]
    clear q2
    refine bz_to 0 (pc2 := 201) (lv2 := [some (az_r (0)), some (az_x 0), some (az_i (i)), some (az_i (w6)), some (az_i (w7)), some (az_i (w8))]) (st2 := [az_i (v32)]) (s2 := t33) (rfl) ?_
    exact bz_retI rfl rfl ⟨_, _, rfl, rfl, lch_up q34 (by omega)⟩
  · refine bz_swc 192 rfl ⟨by decide, by decide⟩ (by decide) (off := 153) rfl (by decide) ?_
    refine bz_to 0 (pc2 := 192) (lv2 := [some (az_r (0)), some (az_x 0), some (az_i (i)), some (az_i (w6)), some (az_i (w7)), some (az_i (w8))]) (st2 := []) (s2 := s) (rfl) ?_
    refine bz_to 4 (pc2 := 198) (lv2 := [some (az_r (0)), some (az_x 0), some (az_i (i)), some (az_i (w6)), some (az_i (w7)), some (az_i (w8))]) (st2 := [az_i (w8), az_i (w7), az_i (w6), az_r (0)]) (s2 := s) (rfl) ?_
    refine bz_w 201 (N1 := N) (M1 := M) (N2 := 0) (M2 := 0) (m2 := am_m_L_riddle) (as := [az_r (0), az_i (w6), az_i (w7), az_i (w8)]) (rest := []) rfl rfl rfl ⟨by omega, by omega⟩ (by omega) (lw_riddle htx (d := d - 1) (by omega) H (by omega) (by omega) (by omega) (by constructor <;> omega) (by constructor <;> omega) (by constructor <;> omega)) (fun v9 e2 t36 q37 => ?_) (fun E e2 t q => by obtain ⟨_, q, _⟩ := q; cases q)
    obtain ⟨v35, q1, q2, q37⟩ := q37
    cases q1
    rw [q2]
    clear q2
    refine bz_to 0 (pc2 := 201) (lv2 := [some (az_r (0)), some (az_x 0), some (az_i (i)), some (az_i (w6)), some (az_i (w7)), some (az_i (w8))]) (st2 := [az_i (v35)]) (s2 := t36) (rfl) ?_
    exact bz_retI rfl rfl ⟨_, _, rfl, rfl, lch_up q37 (by omega)⟩
  · refine bz_swc 202 rfl ⟨by decide, by decide⟩ (by decide) (off := 163) rfl (by decide) ?_
    refine bz_to 0 (pc2 := 202) (lv2 := [some (az_r (0)), some (az_x 0), some (az_i (i)), some (az_i (w6)), some (az_i (w7)), some (az_i (w8))]) (st2 := []) (s2 := s) (rfl) ?_
    refine bz_to 3 (pc2 := 207) (lv2 := [some (az_r (0)), some (az_x 0), some (az_i (i)), some (az_i (w6)), some (az_i (w7)), some (az_i (w8))]) (st2 := [az_i (w8), az_i (w7), az_r (0)]) (s2 := s) (rfl) ?_
    refine bz_w 210 (N1 := N) (M1 := M) (N2 := 0) (M2 := 0) (m2 := am_m_L_fog) (as := [az_r (0), az_i (w7), az_i (w8)]) (rest := []) rfl rfl rfl ⟨by omega, by omega⟩ (by omega) (lw_fog htx (d := d - 1) (by omega) H (by omega) (by omega) (by omega) (by constructor <;> omega) (by constructor <;> omega)) (fun v9 e2 t39 q40 => ?_) (fun E e2 t q => by obtain ⟨_, q, _⟩ := q; cases q)
    obtain ⟨v38, q1, q2, q40⟩ := q40
    cases q1
    rw [q2]
    clear q2
    refine bz_to 0 (pc2 := 210) (lv2 := [some (az_r (0)), some (az_x 0), some (az_i (i)), some (az_i (w6)), some (az_i (w7)), some (az_i (w8))]) (st2 := [az_i (v38)]) (s2 := t39) (rfl) ?_
    exact bz_retI rfl rfl ⟨_, _, rfl, rfl, lch_up q40 (by omega)⟩
  · refine bz_swc 202 rfl ⟨by decide, by decide⟩ (by decide) (off := 163) rfl (by decide) ?_
    refine bz_to 0 (pc2 := 202) (lv2 := [some (az_r (0)), some (az_x 0), some (az_i (i)), some (az_i (w6)), some (az_i (w7)), some (az_i (w8))]) (st2 := []) (s2 := s) (rfl) ?_
    refine bz_to 3 (pc2 := 207) (lv2 := [some (az_r (0)), some (az_x 0), some (az_i (i)), some (az_i (w6)), some (az_i (w7)), some (az_i (w8))]) (st2 := [az_i (w8), az_i (w7), az_r (0)]) (s2 := s) (rfl) ?_
    refine bz_w 210 (N1 := N) (M1 := M) (N2 := 0) (M2 := 0) (m2 := am_m_L_fog) (as := [az_r (0), az_i (w7), az_i (w8)]) (rest := []) rfl rfl rfl ⟨by omega, by omega⟩ (by omega) (lw_fog htx (d := d - 1) (by omega) H (by omega) (by omega) (by omega) (by constructor <;> omega) (by constructor <;> omega)) (fun v9 e2 t42 q43 => ?_) (fun E e2 t q => by obtain ⟨_, q, _⟩ := q; cases q)
    obtain ⟨v41, q1, q2, q43⟩ := q43
    cases q1
    rw [q2]
    clear q2
    refine bz_to 0 (pc2 := 210) (lv2 := [some (az_r (0)), some (az_x 0), some (az_i (i)), some (az_i (w6)), some (az_i (w7)), some (az_i (w8))]) (st2 := [az_i (v41)]) (s2 := t42) (rfl) ?_
    exact bz_retI rfl rfl ⟨_, _, rfl, rfl, lch_up q43 (by omega)⟩
  · refine bz_swc 211 rfl ⟨by decide, by decide⟩ (by decide) (off := 172) rfl (by decide) ?_
    refine bz_to 0 (pc2 := 211) (lv2 := [some (az_r (0)), some (az_x 0), some (az_i (i)), some (az_i (w6)), some (az_i (w7)), some (az_i (w8))]) (st2 := []) (s2 := s) (rfl) ?_
    refine bz_to 3 (pc2 := 216) (lv2 := [some (az_r (0)), some (az_x 0), some (az_i (i)), some (az_i (w6)), some (az_i (w7)), some (az_i (w8))]) (st2 := [az_i (w8), az_i (w7), az_r (0)]) (s2 := s) (rfl) ?_
    refine bz_w 219 (N1 := N) (M1 := M) (N2 := 0) (M2 := 0) (m2 := am_m_L_price) (as := [az_r (0), az_i (w7), az_i (w8)]) (rest := []) rfl rfl rfl ⟨by omega, by omega⟩ (by omega) (lw_price htx (d := d - 1) (by omega) H (by omega) (by omega) (by omega) (by constructor <;> omega) (by constructor <;> omega)) (fun v9 e2 t45 q46 => ?_) (fun E e2 t q => by obtain ⟨_, q, _⟩ := q; cases q)
    obtain ⟨v44, q1, q2, q46⟩ := q46
    cases q1
    rw [q2]
    clear q2
    refine bz_to 0 (pc2 := 219) (lv2 := [some (az_r (0)), some (az_x 0), some (az_i (i)), some (az_i (w6)), some (az_i (w7)), some (az_i (w8))]) (st2 := [az_i (v44)]) (s2 := t45) (rfl) ?_
    exact bz_retI rfl rfl ⟨_, _, rfl, rfl, lch_up q46 (by omega)⟩
  · refine bz_swc 220 rfl ⟨by decide, by decide⟩ (by decide) (off := 181) rfl (by decide) ?_
    refine bz_to 0 (pc2 := 220) (lv2 := [some (az_r (0)), some (az_x 0), some (az_i (i)), some (az_i (w6)), some (az_i (w7)), some (az_i (w8))]) (st2 := []) (s2 := s) (rfl) ?_
    refine bz_to 3 (pc2 := 224) (lv2 := [some (az_r (0)), some (az_x 0), some (az_i (i)), some (az_i (w6)), some (az_i (w7)), some (az_i (w8))]) (st2 := [az_i (w7), az_i (w6), az_r (0)]) (s2 := s) (rfl) ?_
    refine bz_w 227 (N1 := N) (M1 := M) (N2 := 0) (M2 := 0) (m2 := am_m_L_cross) (as := [az_r (0), az_i (w6), az_i (w7)]) (rest := []) rfl rfl rfl ⟨by omega, by omega⟩ (by omega) (lw_cross htx (d := d - 1) (by omega) H (by omega) (by omega) (by omega) (by constructor <;> omega) (by constructor <;> omega)) (fun v9 e2 t48 q49 => ?_) (fun E e2 t q => by obtain ⟨_, q, _⟩ := q; cases q)
    obtain ⟨v47, q1, q2, q49⟩ := q49
    cases q1
    rw [q2]
    clear q2
    refine bz_to 0 (pc2 := 227) (lv2 := [some (az_r (0)), some (az_x 0), some (az_i (i)), some (az_i (w6)), some (az_i (w7)), some (az_i (w8))]) (st2 := [az_i (v47)]) (s2 := t48) (rfl) ?_
    exact bz_retI rfl rfl ⟨_, _, rfl, rfl, lch_up q49 (by omega)⟩
  · refine bz_swc 220 rfl ⟨by decide, by decide⟩ (by decide) (off := 181) rfl (by decide) ?_
    refine bz_to 0 (pc2 := 220) (lv2 := [some (az_r (0)), some (az_x 0), some (az_i (i)), some (az_i (w6)), some (az_i (w7)), some (az_i (w8))]) (st2 := []) (s2 := s) (rfl) ?_
    refine bz_to 3 (pc2 := 224) (lv2 := [some (az_r (0)), some (az_x 0), some (az_i (i)), some (az_i (w6)), some (az_i (w7)), some (az_i (w8))]) (st2 := [az_i (w7), az_i (w6), az_r (0)]) (s2 := s) (rfl) ?_
    refine bz_w 227 (N1 := N) (M1 := M) (N2 := 0) (M2 := 0) (m2 := am_m_L_cross) (as := [az_r (0), az_i (w6), az_i (w7)]) (rest := []) rfl rfl rfl ⟨by omega, by omega⟩ (by omega) (lw_cross htx (d := d - 1) (by omega) H (by omega) (by omega) (by omega) (by constructor <;> omega) (by constructor <;> omega)) (fun v9 e2 t51 q52 => ?_) (fun E e2 t q => by obtain ⟨_, q, _⟩ := q; cases q)
    obtain ⟨v50, q1, q2, q52⟩ := q52
    cases q1
    rw [q2]
    clear q2
    refine bz_to 0 (pc2 := 227) (lv2 := [some (az_r (0)), some (az_x 0), some (az_i (i)), some (az_i (w6)), some (az_i (w7)), some (az_i (w8))]) (st2 := [az_i (v50)]) (s2 := t51) (rfl) ?_
    exact bz_retI rfl rfl ⟨_, _, rfl, rfl, lch_up q52 (by omega)⟩
  · refine bz_swc 220 rfl ⟨by decide, by decide⟩ (by decide) (off := 181) rfl (by decide) ?_
    refine bz_to 0 (pc2 := 220) (lv2 := [some (az_r (0)), some (az_x 0), some (az_i (i)), some (az_i (w6)), some (az_i (w7)), some (az_i (w8))]) (st2 := []) (s2 := s) (rfl) ?_
    refine bz_to 3 (pc2 := 224) (lv2 := [some (az_r (0)), some (az_x 0), some (az_i (i)), some (az_i (w6)), some (az_i (w7)), some (az_i (w8))]) (st2 := [az_i (w7), az_i (w6), az_r (0)]) (s2 := s) (rfl) ?_
    refine bz_w 227 (N1 := N) (M1 := M) (N2 := 0) (M2 := 0) (m2 := am_m_L_cross) (as := [az_r (0), az_i (w6), az_i (w7)]) (rest := []) rfl rfl rfl ⟨by omega, by omega⟩ (by omega) (lw_cross htx (d := d - 1) (by omega) H (by omega) (by omega) (by omega) (by constructor <;> omega) (by constructor <;> omega)) (fun v9 e2 t54 q55 => ?_) (fun E e2 t q => by obtain ⟨_, q, _⟩ := q; cases q)
    obtain ⟨v53, q1, q2, q55⟩ := q55
    cases q1
    rw [q2]
    clear q2
    refine bz_to 0 (pc2 := 227) (lv2 := [some (az_r (0)), some (az_x 0), some (az_i (i)), some (az_i (w6)), some (az_i (w7)), some (az_i (w8))]) (st2 := [az_i (v53)]) (s2 := t54) (rfl) ?_
    exact bz_retI rfl rfl ⟨_, _, rfl, rfl, lch_up q55 (by omega)⟩
  · refine bz_swc 220 rfl ⟨by decide, by decide⟩ (by decide) (off := 181) rfl (by decide) ?_
    refine bz_to 0 (pc2 := 220) (lv2 := [some (az_r (0)), some (az_x 0), some (az_i (i)), some (az_i (w6)), some (az_i (w7)), some (az_i (w8))]) (st2 := []) (s2 := s) (rfl) ?_
    refine bz_to 3 (pc2 := 224) (lv2 := [some (az_r (0)), some (az_x 0), some (az_i (i)), some (az_i (w6)), some (az_i (w7)), some (az_i (w8))]) (st2 := [az_i (w7), az_i (w6), az_r (0)]) (s2 := s) (rfl) ?_
    refine bz_w 227 (N1 := N) (M1 := M) (N2 := 0) (M2 := 0) (m2 := am_m_L_cross) (as := [az_r (0), az_i (w6), az_i (w7)]) (rest := []) rfl rfl rfl ⟨by omega, by omega⟩ (by omega) (lw_cross htx (d := d - 1) (by omega) H (by omega) (by omega) (by omega) (by constructor <;> omega) (by constructor <;> omega)) (fun v9 e2 t57 q58 => ?_) (fun E e2 t q => by obtain ⟨_, q, _⟩ := q; cases q)
    obtain ⟨v56, q1, q2, q58⟩ := q58
    cases q1
    rw [q2]
    clear q2
    refine bz_to 0 (pc2 := 227) (lv2 := [some (az_r (0)), some (az_x 0), some (az_i (i)), some (az_i (w6)), some (az_i (w7)), some (az_i (w8))]) (st2 := [az_i (v56)]) (s2 := t57) (rfl) ?_
    exact bz_retI rfl rfl ⟨_, _, rfl, rfl, lch_up q58 (by omega)⟩
  · refine bz_swc 220 rfl ⟨by decide, by decide⟩ (by decide) (off := 181) rfl (by decide) ?_
    refine bz_to 0 (pc2 := 220) (lv2 := [some (az_r (0)), some (az_x 0), some (az_i (i)), some (az_i (w6)), some (az_i (w7)), some (az_i (w8))]) (st2 := []) (s2 := s) (rfl) ?_
    refine bz_to 3 (pc2 := 224) (lv2 := [some (az_r (0)), some (az_x 0), some (az_i (i)), some (az_i (w6)), some (az_i (w7)), some (az_i (w8))]) (st2 := [az_i (w7), az_i (w6), az_r (0)]) (s2 := s) (rfl) ?_
    refine bz_w 227 (N1 := N) (M1 := M) (N2 := 0) (M2 := 0) (m2 := am_m_L_cross) (as := [az_r (0), az_i (w6), az_i (w7)]) (rest := []) rfl rfl rfl ⟨by omega, by omega⟩ (by omega) (lw_cross htx (d := d - 1) (by omega) H (by omega) (by omega) (by omega) (by constructor <;> omega) (by constructor <;> omega)) (fun v9 e2 t60 q61 => ?_) (fun E e2 t q => by obtain ⟨_, q, _⟩ := q; cases q)
    obtain ⟨v59, q1, q2, q61⟩ := q61
    cases q1
    rw [q2]
    clear q2
    refine bz_to 0 (pc2 := 227) (lv2 := [some (az_r (0)), some (az_x 0), some (az_i (i)), some (az_i (w6)), some (az_i (w7)), some (az_i (w8))]) (st2 := [az_i (v59)]) (s2 := t60) (rfl) ?_
    exact bz_retI rfl rfl ⟨_, _, rfl, rfl, lch_up q61 (by omega)⟩
  · refine bz_swc 228 rfl ⟨by decide, by decide⟩ (by decide) (off := 189) rfl (by decide) ?_
    refine bz_to 0 (pc2 := 228) (lv2 := [some (az_r (0)), some (az_x 0), some (az_i (i)), some (az_i (w6)), some (az_i (w7)), some (az_i (w8))]) (st2 := []) (s2 := s) (rfl) ?_
    refine bz_to 3 (pc2 := 232) (lv2 := [some (az_r (0)), some (az_x 0), some (az_i (i)), some (az_i (w6)), some (az_i (w7)), some (az_i (w8))]) (st2 := [az_i (w7), az_i (w6), az_r (0)]) (s2 := s) (rfl) ?_
    refine bz_w 235 (N1 := N) (M1 := M) (N2 := 0) (M2 := 0) (m2 := am_m_L_dispute) (as := [az_r (0), az_i (w6), az_i (w7)]) (rest := []) rfl rfl rfl ⟨by omega, by omega⟩ (by omega) (lw_dispute htx (d := d - 1) (by omega) H (by omega) (by omega) (by omega) (by constructor <;> omega) (by constructor <;> omega)) (fun v9 e2 t63 q64 => ?_) (fun E e2 t q => by obtain ⟨_, q, _⟩ := q; cases q)
    obtain ⟨v62, q1, q2, q64⟩ := q64
    cases q1
    rw [q2]
    clear q2
    refine bz_to 0 (pc2 := 235) (lv2 := [some (az_r (0)), some (az_x 0), some (az_i (i)), some (az_i (w6)), some (az_i (w7)), some (az_i (w8))]) (st2 := [az_i (v62)]) (s2 := t63) (rfl) ?_
    exact bz_retI rfl rfl ⟨_, _, rfl, rfl, lch_up q64 (by omega)⟩
  · refine bz_swc 228 rfl ⟨by decide, by decide⟩ (by decide) (off := 189) rfl (by decide) ?_
    refine bz_to 0 (pc2 := 228) (lv2 := [some (az_r (0)), some (az_x 0), some (az_i (i)), some (az_i (w6)), some (az_i (w7)), some (az_i (w8))]) (st2 := []) (s2 := s) (rfl) ?_
    refine bz_to 3 (pc2 := 232) (lv2 := [some (az_r (0)), some (az_x 0), some (az_i (i)), some (az_i (w6)), some (az_i (w7)), some (az_i (w8))]) (st2 := [az_i (w7), az_i (w6), az_r (0)]) (s2 := s) (rfl) ?_
    refine bz_w 235 (N1 := N) (M1 := M) (N2 := 0) (M2 := 0) (m2 := am_m_L_dispute) (as := [az_r (0), az_i (w6), az_i (w7)]) (rest := []) rfl rfl rfl ⟨by omega, by omega⟩ (by omega) (lw_dispute htx (d := d - 1) (by omega) H (by omega) (by omega) (by omega) (by constructor <;> omega) (by constructor <;> omega)) (fun v9 e2 t66 q67 => ?_) (fun E e2 t q => by obtain ⟨_, q, _⟩ := q; cases q)
    obtain ⟨v65, q1, q2, q67⟩ := q67
    cases q1
    rw [q2]
    clear q2
    refine bz_to 0 (pc2 := 235) (lv2 := [some (az_r (0)), some (az_x 0), some (az_i (i)), some (az_i (w6)), some (az_i (w7)), some (az_i (w8))]) (st2 := [az_i (v65)]) (s2 := t66) (rfl) ?_
    exact bz_retI rfl rfl ⟨_, _, rfl, rfl, lch_up q67 (by omega)⟩
  · refine bz_swc 236 rfl ⟨by decide, by decide⟩ (by decide) (off := 197) rfl (by decide) ?_
    refine bz_to 0 (pc2 := 236) (lv2 := [some (az_r (0)), some (az_x 0), some (az_i (i)), some (az_i (w6)), some (az_i (w7)), some (az_i (w8))]) (st2 := []) (s2 := s) (rfl) ?_
    refine bz_to 4 (pc2 := 242) (lv2 := [some (az_r (0)), some (az_x 0), some (az_i (i)), some (az_i (w6)), some (az_i (w7)), some (az_i (w8))]) (st2 := [az_i (2), az_i (w8), az_i (w7), az_r (0)]) (s2 := s) (rfl) ?_
    refine bz_rem 243 rfl (by constructor <;> omega) (by constructor <;> omega) rfl ?_
    refine bz_to 0 (pc2 := 243) (lv2 := [some (az_r (0)), some (az_x 0), some (az_i (i)), some (az_i (w6)), some (az_i (w7)), some (az_i (w8))]) (st2 := [az_i ((w8 % 2)), az_i (w7), az_r (0)]) (s2 := s) (rfl) ?_
    refine bz_ifc 250 246 rfl (by decide) (by first | assumption | exact ⟨by omega, by omega⟩) (fun h68 => ?_) (fun h68 => ?_)
    · have h68 : ¬ (w8 % 2) = 0 := h68
      refine bz_to 1 (pc2 := 251) (lv2 := [some (az_r (0)), some (az_x 0), some (az_i (i)), some (az_i (w6)), some (az_i (w7)), some (az_i (w8))]) (st2 := [az_i (0), az_i (w7), az_r (0)]) (s2 := s) (rfl) ?_
      refine bz_w 254 (N1 := N) (M1 := M) (N2 := 0) (M2 := 0) (m2 := am_m_L_settle) (as := [az_r (0), az_i (w7), az_i (0)]) (rest := []) rfl rfl rfl ⟨by omega, by omega⟩ (by omega) (lw_settle0 htx (d := d - 1) (by omega) H (by omega) (by omega) (by omega) (by constructor <;> omega)) (fun v9 e2 t70 q71 => ?_) (fun E e2 t q => by obtain ⟨_, q, _⟩ := q; cases q)
      obtain ⟨v69, q1, q2, q71⟩ := q71
      cases q1
      rw [q2]
      clear q2
      refine bz_to 0 (pc2 := 254) (lv2 := [some (az_r (0)), some (az_x 0), some (az_i (i)), some (az_i (w6)), some (az_i (w7)), some (az_i (w8))]) (st2 := [az_i (v69)]) (s2 := t70) (rfl) ?_
      exact bz_retI rfl rfl ⟨_, _, rfl, rfl, lch_up q71 (by omega)⟩
    · have h68 : (w8 % 2) = 0 := Decidable.not_not.mp h68
      refine bz_to 2 (pc2 := 251) (lv2 := [some (az_r (0)), some (az_x 0), some (az_i (i)), some (az_i (w6)), some (az_i (w7)), some (az_i (w8))]) (st2 := [az_i (1), az_i (w7), az_r (0)]) (s2 := s) (rfl) ?_
      refine bz_w 254 (N1 := N) (M1 := M) (N2 := 0) (M2 := 0) (m2 := am_m_L_settle) (as := [az_r (0), az_i (w7), az_i (1)]) (rest := []) rfl rfl rfl ⟨by omega, by omega⟩ (by omega) (lw_settle1 htx (d := d - 1) (by omega) H (by omega) (by omega) (by omega) (by constructor <;> omega)) (fun v9 e2 t73 q74 => ?_) (fun E e2 t q => by obtain ⟨_, q, _⟩ := q; cases q)
      obtain ⟨v72, q1, q2, q74⟩ := q74
      cases q1
      rw [q2]
      clear q2
      refine bz_to 0 (pc2 := 254) (lv2 := [some (az_r (0)), some (az_x 0), some (az_i (i)), some (az_i (w6)), some (az_i (w7)), some (az_i (w8))]) (st2 := [az_i (v72)]) (s2 := t73) (rfl) ?_
      exact bz_retI rfl rfl ⟨_, _, rfl, rfl, lch_up q74 (by omega)⟩
  · refine bz_swc 255 rfl ⟨by decide, by decide⟩ (by decide) (off := 216) rfl (by decide) ?_
    refine bz_to 0 (pc2 := 255) (lv2 := [some (az_r (0)), some (az_x 0), some (az_i (i)), some (az_i (w6)), some (az_i (w7)), some (az_i (w8))]) (st2 := []) (s2 := s) (rfl) ?_
    refine bz_to 4 (pc2 := 260) (lv2 := [some (az_r (0)), some (az_x 0), some (az_i (i)), some (az_i (w6)), some (az_i (w7)), some (az_i (w8))]) (st2 := [az_i (3), az_i (w8), az_i (w6), az_r (0)]) (s2 := s) (rfl) ?_
    refine bz_rem 261 rfl (by constructor <;> omega) (by constructor <;> omega) rfl ?_
    refine bz_to 0 (pc2 := 261) (lv2 := [some (az_r (0)), some (az_x 0), some (az_i (i)), some (az_i (w6)), some (az_i (w7)), some (az_i (w8))]) (st2 := [az_i ((w8 % 3)), az_i (w6), az_r (0)]) (s2 := s) (rfl) ?_
    refine bz_ifc 268 264 rfl (by decide) (by first | assumption | exact ⟨by omega, by omega⟩) (fun h75 => ?_) (fun h75 => ?_)
    · have h75 : (w8 % 3) ≤ 0 := h75
      refine bz_to 1 (pc2 := 269) (lv2 := [some (az_r (0)), some (az_x 0), some (az_i (i)), some (az_i (w6)), some (az_i (w7)), some (az_i (w8))]) (st2 := [az_i (0), az_i (w6), az_r (0)]) (s2 := s) (rfl) ?_
      refine bz_w 272 (N1 := N) (M1 := M) (N2 := 0) (M2 := 0) (m2 := am_m_L_strike) (as := [az_r (0), az_i (w6), az_i (0)]) (rest := []) rfl rfl rfl ⟨by omega, by omega⟩ (by omega) (lw_strike0 htx (d := d - 1) (by omega) H (by omega) (by omega) (by omega) (by constructor <;> omega)) (fun v9 e2 t77 q78 => ?_) (fun E e2 t q => by obtain ⟨_, q, _⟩ := q; cases q)
      obtain ⟨v76, q1, q2, q78⟩ := q78
      cases q1
      rw [q2]
      clear q2
      refine bz_to 0 (pc2 := 272) (lv2 := [some (az_r (0)), some (az_x 0), some (az_i (i)), some (az_i (w6)), some (az_i (w7)), some (az_i (w8))]) (st2 := [az_i (v76)]) (s2 := t77) (rfl) ?_
      exact bz_retI rfl rfl ⟨_, _, rfl, rfl, lch_up q78 (by omega)⟩
    · have h75 : ¬ ((w8 % 3) ≤ 0) := h75
      refine bz_to 2 (pc2 := 269) (lv2 := [some (az_r (0)), some (az_x 0), some (az_i (i)), some (az_i (w6)), some (az_i (w7)), some (az_i (w8))]) (st2 := [az_i (1), az_i (w6), az_r (0)]) (s2 := s) (rfl) ?_
      refine bz_w 272 (N1 := N) (M1 := M) (N2 := 0) (M2 := 0) (m2 := am_m_L_strike) (as := [az_r (0), az_i (w6), az_i (1)]) (rest := []) rfl rfl rfl ⟨by omega, by omega⟩ (by omega) (lw_strike1 htx (d := d - 1) (by omega) H (by omega) (by omega) (by omega) (by constructor <;> omega)) (fun v9 e2 t80 q81 => ?_) (fun E e2 t q => by obtain ⟨_, q, _⟩ := q; cases q)
      obtain ⟨v79, q1, q2, q81⟩ := q81
      cases q1
      rw [q2]
      clear q2
      refine bz_to 0 (pc2 := 272) (lv2 := [some (az_r (0)), some (az_x 0), some (az_i (i)), some (az_i (w6)), some (az_i (w7)), some (az_i (w8))]) (st2 := [az_i (v79)]) (s2 := t80) (rfl) ?_
      exact bz_retI rfl rfl ⟨_, _, rfl, rfl, lch_up q81 (by omega)⟩
  · refine bz_swc 255 rfl ⟨by decide, by decide⟩ (by decide) (off := 216) rfl (by decide) ?_
    refine bz_to 0 (pc2 := 255) (lv2 := [some (az_r (0)), some (az_x 0), some (az_i (i)), some (az_i (w6)), some (az_i (w7)), some (az_i (w8))]) (st2 := []) (s2 := s) (rfl) ?_
    refine bz_to 4 (pc2 := 260) (lv2 := [some (az_r (0)), some (az_x 0), some (az_i (i)), some (az_i (w6)), some (az_i (w7)), some (az_i (w8))]) (st2 := [az_i (3), az_i (w8), az_i (w6), az_r (0)]) (s2 := s) (rfl) ?_
    refine bz_rem 261 rfl (by constructor <;> omega) (by constructor <;> omega) rfl ?_
    refine bz_to 0 (pc2 := 261) (lv2 := [some (az_r (0)), some (az_x 0), some (az_i (i)), some (az_i (w6)), some (az_i (w7)), some (az_i (w8))]) (st2 := [az_i ((w8 % 3)), az_i (w6), az_r (0)]) (s2 := s) (rfl) ?_
    refine bz_ifc 268 264 rfl (by decide) (by first | assumption | exact ⟨by omega, by omega⟩) (fun h82 => ?_) (fun h82 => ?_)
    · have h82 : (w8 % 3) ≤ 0 := h82
      refine bz_to 1 (pc2 := 269) (lv2 := [some (az_r (0)), some (az_x 0), some (az_i (i)), some (az_i (w6)), some (az_i (w7)), some (az_i (w8))]) (st2 := [az_i (0), az_i (w6), az_r (0)]) (s2 := s) (rfl) ?_
      refine bz_w 272 (N1 := N) (M1 := M) (N2 := 0) (M2 := 0) (m2 := am_m_L_strike) (as := [az_r (0), az_i (w6), az_i (0)]) (rest := []) rfl rfl rfl ⟨by omega, by omega⟩ (by omega) (lw_strike0 htx (d := d - 1) (by omega) H (by omega) (by omega) (by omega) (by constructor <;> omega)) (fun v9 e2 t84 q85 => ?_) (fun E e2 t q => by obtain ⟨_, q, _⟩ := q; cases q)
      obtain ⟨v83, q1, q2, q85⟩ := q85
      cases q1
      rw [q2]
      clear q2
      refine bz_to 0 (pc2 := 272) (lv2 := [some (az_r (0)), some (az_x 0), some (az_i (i)), some (az_i (w6)), some (az_i (w7)), some (az_i (w8))]) (st2 := [az_i (v83)]) (s2 := t84) (rfl) ?_
      exact bz_retI rfl rfl ⟨_, _, rfl, rfl, lch_up q85 (by omega)⟩
    · have h82 : ¬ ((w8 % 3) ≤ 0) := h82
      refine bz_to 2 (pc2 := 269) (lv2 := [some (az_r (0)), some (az_x 0), some (az_i (i)), some (az_i (w6)), some (az_i (w7)), some (az_i (w8))]) (st2 := [az_i (1), az_i (w6), az_r (0)]) (s2 := s) (rfl) ?_
      refine bz_w 272 (N1 := N) (M1 := M) (N2 := 0) (M2 := 0) (m2 := am_m_L_strike) (as := [az_r (0), az_i (w6), az_i (1)]) (rest := []) rfl rfl rfl ⟨by omega, by omega⟩ (by omega) (lw_strike1 htx (d := d - 1) (by omega) H (by omega) (by omega) (by omega) (by constructor <;> omega)) (fun v9 e2 t87 q88 => ?_) (fun E e2 t q => by obtain ⟨_, q, _⟩ := q; cases q)
      obtain ⟨v86, q1, q2, q88⟩ := q88
      cases q1
      rw [q2]
      clear q2
      refine bz_to 0 (pc2 := 272) (lv2 := [some (az_r (0)), some (az_x 0), some (az_i (i)), some (az_i (w6)), some (az_i (w7)), some (az_i (w8))]) (st2 := [az_i (v86)]) (s2 := t87) (rfl) ?_
      exact bz_retI rfl rfl ⟨_, _, rfl, rfl, lch_up q88 (by omega)⟩
  · refine bz_swc 273 rfl ⟨by decide, by decide⟩ (by decide) (off := 234) rfl (by decide) ?_
    refine bz_to 0 (pc2 := 273) (lv2 := [some (az_r (0)), some (az_x 0), some (az_i (i)), some (az_i (w6)), some (az_i (w7)), some (az_i (w8))]) (st2 := []) (s2 := s) (rfl) ?_
    refine bz_to 4 (pc2 := 278) (lv2 := [some (az_r (0)), some (az_x 0), some (az_i (i)), some (az_i (w6)), some (az_i (w7)), some (az_i (w8))]) (st2 := [az_i ((1 + w8)), az_r (0)]) (s2 := s) (rfl) ?_
    refine bz_w 281 (N1 := N) (M1 := M) (N2 := 0) (M2 := 0) (m2 := am_m_L_pass) (as := [az_r (0), az_i ((1 + w8))]) (rest := []) rfl rfl rfl ⟨by omega, by omega⟩ (by omega) (lw_pass htx (d := d - 1) (by omega) H (by omega) (by omega) (by omega) (by constructor <;> omega)) (fun v9 e2 t90 q91 => ?_) (fun E e2 t q => by obtain ⟨_, q, _⟩ := q; cases q)
    obtain ⟨v89, q1, q2, q91⟩ := q91
    cases q1
    rw [q2]
    clear q2
    refine bz_to 0 (pc2 := 281) (lv2 := [some (az_r (0)), some (az_x 0), some (az_i (i)), some (az_i (w6)), some (az_i (w7)), some (az_i (w8))]) (st2 := [az_i (v89)]) (s2 := t90) (rfl) ?_
    exact bz_retI rfl rfl ⟨_, _, rfl, rfl, lch_up q91 (by omega)⟩
  · refine bz_swd 282 rfl (by constructor <;> omega) (by omega) (by decide) ?_
    refine bz_to 0 (pc2 := 282) (lv2 := [some (az_r (0)), some (az_x 0), some (az_i (i)), some (az_i (w6)), some (az_i (w7)), some (az_i (w8))]) (st2 := []) (s2 := s) (rfl) ?_
    refine bz_to 1 (pc2 := 283) (lv2 := [some (az_r (0)), some (az_x 0), some (az_i (i)), some (az_i (w6)), some (az_i (w7)), some (az_i (w8))]) (st2 := [az_r (0)]) (s2 := s) (rfl) ?_
    have kt : lok (am_text w6.toNat w7.toNat w8.toNat) 60 := lok_text (by omega) (by omega) (by omega)
    refine bz_mac (a := w6) (b := w7) (c := w8) (N0 := N - 24) (M0 := M - 4000) (Q2 := (fun o e2 t => ∃ v S2, o = .inl (some (az_i v)) ∧ e2 = e ∧ lch s t S S2 h (h + 10) v)) rfl ⟨rfl, rfl⟩ ⟨rfl, rfl, rfl, rfl⟩ rfl rfl rfl ⟨by omega, by omega⟩ ⟨by omega, by omega⟩ ⟨by omega, by omega⟩ (by omega) ⟨by omega, by omega⟩ (lb_does (am_txu_sx htx (am_text w6.toNat w7.toNat w8.toNat)) (d := d - 1) (by omega) H (by omega) (by omega) (by omega) (if_pos rfl) kt.1 (lok_g kt)) (fun o e2 t q => ?_)
    obtain ⟨v, S2, q1, q2, q3⟩ := q
    exact ⟨⟨v, q1⟩, v, S2, q1, q2, lch_up q3 (by omega)⟩
