/-! THE LAW, 7: read; written by program (wip/p47tools/l67.py) -/
theorem zrn_I {S : zR} {h : Nat} (hI : zInv S h) (hJ : zJ S) (hM : zM S) : ∀ (L : List (Nat × List Int)) (k : Nat), (∀ x, x ∈ L → zgc x.1 x.2) → h + L.length ≤ 10000 → zInv (zrn S k L).2.2.2.2 (h + L.length) ∧ zJ (zrn S k L).2.2.2.2 ∧ zM (zrn S k L).2.2.2.2 ∧ zn S 0 ≤ zn (zrn S k L).2.2.2.2 0 := by
  intro L
  induction L generalizing S h with
  | nil => exact fun k _ _ => ⟨hI, hJ, hM, Nat.le_refl _⟩
  | cons x L ih =>
    intro k hg hl
    rw [List.length_cons] at hl
    have hx := (hg x (List.mem_cons_self ..)).1
    have i1 := zIv_cm hI (by omega) hx x.2
    have i2 := zJ_cm hI hJ hx x.2
    have i3 := zM_cm hI hM hx x.2
    have i4 := (zok_cm hI (by omega) hx x.2).2.2.1
    unfold zrn
    rw [List.length_cons]
    by_cases q : (zcm S x.1 x.2).1 = 0
    · rw [if_pos q]
      obtain ⟨a1, a2, a3, a4⟩ := ih i1 i2 i3 (k + 1) (fun y hy => hg y (List.mem_cons_of_mem _ hy)) (by omega)
      rw [show h + (L.length + 1) = h + 1 + L.length from by omega]
      exact ⟨a1, a2, a3, by omega⟩
    · rw [if_neg q]
      exact ⟨zI_up i1 (by omega), i2, i3, i4⟩
/-- the state with a text typed -/
def zkT (s : az_S) (S : zR) (h c : Nat) (G : Nat → zR) (n : Nat) (T : Nat → Int) : Prop :=
  zkk (s 3) S h ∧ (∃ p : Nat, p ≤ 8 ∧ c ≤ 8 ∧ s 17 1 = ((p : Nat) : Int) ∧ s 17 2 = ((c : Nat) : Int) ∧ ∀ i, i < c → zkk (fun j => s 19 ((p + 9 - c + i) % 9 * 184 + j)) (G i) h) ∧ (s 22 1 = 60 ∧ zTx s n T) ∧ s 30 1 = 16
/-- what read leaves, with the number that the law takes for its answer -/
theorem lch_read {s t : az_S} {S : zR} {h c n p : Nat} {G : Nat → zR} {T : Nat → Int} {o : az_O} (H : zkT s S h c G n T) (hh : h + 10 ≤ 10000) (hp8 : p ≤ 8) (hc8 : c ≤ 8) (hp : s 17 1 = ((p : Nat) : Int)) (hc : s 17 2 = ((c : Nat) : Int)) (hG : ∀ i, i < c → zkk (fun j => s 19 ((p + 9 - c + i) % 9 * 184 + j)) (G i) h) (P : zrE s t o S T n p c) : (o = .inr 1 ∧ lch s t S S h (h + 10) (-900001)) ∨ (o = .inr 4 ∧ lch s t S S h (h + 10) (-900002)) ∨ ∃ v S2, o = .inl (some (az_i v)) ∧ lch s t S S2 h (h + 10) v := by
  obtain ⟨P1, P2⟩ := P
  obtain ⟨⟨⟨hR, hI, hJ⟩, hM⟩, -, ⟨h60, hT⟩, h30⟩ := H
  cases hb : (zpr T n 11 0).2.1 with
  | false =>
    obtain ⟨a1, a2, a3, a4, a5, a6⟩ := P1 hb
    left
    refine ⟨a1, ⟨fun i hi => a6 i (by omega) (by omega) (by omega) (by omega) (by omega), a6 21 (by decide) (by decide) (by decide) (by decide) (by decide), a3 5 (by decide)⟩, Nat.le_refl _, Or.inr ⟨by decide, by decide, rfl, c, G, ?_⟩⟩
    have e3 := a6 3 (by decide) (by decide) (by decide) (by decide) (by decide)
    have e17 := a6 17 (by decide) (by decide) (by decide) (by decide) (by decide)
    have e19 := a6 19 (by decide) (by decide) (by decide) (by decide) (by decide)
    have e30 := a6 30 (by decide) (by decide) (by decide) (by decide) (by decide)
    refine ⟨?_, ⟨p, hp8, hc8, ?_, ?_, fun i hi => ?_⟩, ⟨a5.trans h60, a4⟩, by rw [e30]; exact h30⟩
    · rw [e3]
      exact zkk_up ⟨⟨hR, hI, hJ⟩, hM⟩ (by omega)
    · rw [e17]; exact hp
    · rw [e17]; exact hc
    · rw [e19]
      exact zkk_up (hG i hi) (by omega)
  | true =>
    obtain ⟨w, b19, b22, b21, bo, D1, D2, D3⟩ := P2 hb
    have hlen := zpr_n hT 11 0 (by omega) hb
    have hn60 := hT.2.1
    have hl10 : (zpr T n 11 0).1.length ≤ 10 := by omega
    obtain ⟨i1, i2, i3, i4⟩ := zrn_I hI hJ hM (zpr T n 11 0).1 0 (zpr_g 11 0) (by omega)
    have t22 : t 22 = w 22 := D3 22 (by decide) (by decide) (by decide) (by decide)
    have t30 : t 30 = s 30 := (D3 30 (by decide) (by decide) (by decide) (by decide)).trans (bo 30 (by decide) (by decide) (by decide) (by decide) (by decide))
    have t21 : t 21 = s 21 := (D3 21 (by decide) (by decide) (by decide) (by decide)).trans (bo 21 (by decide) (by decide) (by decide) (by decide) (by decide))
    have t0 : t 0 = s 0 := (D3 0 (by decide) (by decide) (by decide) (by decide)).trans (bo 0 (by decide) (by decide) (by decide) (by decide) (by decide))
    have t19 : t 19 = va_cpy (s 3) (s 19) 0 (p * 184) 184 := (D3 19 (by decide) (by decide) (by decide) (by decide)).trans b19
    have h22 : t 22 1 = 60 ∧ t 22 2 = 0 := by rw [t22]; exact ⟨b21.trans h60, b22⟩
    have fr : (∀ i, 34 ≤ i → t i = s i) ∧ t 21 = s 21 ∧ t 0 5 = s 0 5 := ⟨fun i hi => (D3 i (by omega) (by omega) (by omega) (by omega)).trans (bo i (by omega) (by omega) (by omega) (by omega) (by omega)), t21, by rw [t0]⟩
    right
    by_cases q : (zrn S 0 (zpr T n 11 0).1).2.1 = 0
    · obtain ⟨c1, c2, c3, c4, -⟩ := D1 q
      right
      have hT2 : zkk (t 3) (zrn S 0 (zpr T n 11 0).1).2.2.2.2 (h + 10) := ⟨⟨c2, zI_up i1 (by omega), i2⟩, i3⟩
      obtain ⟨c2', G2, z1, z2⟩ := zkS_past (h2 := h + 10) (by omega) ⟨⟨hR, hI, hJ⟩, hM⟩ hp8 hc8 hG c3 c4 t19 hT2 h22 (by rw [t30]; exact h30)
      exact ⟨_, _, c1, fr, i4, Or.inl ⟨by omega, by omega, c2', G2, z1, z2⟩⟩
    · obtain ⟨c1, ⟨X, c2⟩, c3, -⟩ := D2 q
      left
      have w17 : w 17 = s 17 := bo 17 (by decide) (by decide) (by decide) (by decide) (by decide)
      refine ⟨c1, fr, Nat.le_refl _, Or.inr ⟨by decide, by decide, rfl, c, G, ?_⟩⟩
      refine zkS_free (S := S) (h2 := h + 10) (by omega) hp8 hc8 hG (by rw [c3, w17]; exact hp) (by rw [c3, w17]; exact hc) t19 ?_ h22 (by rw [t30]; exact h30)
      refine zkk_up (zkk_c (W := s 3) ⟨⟨hR, hI, hJ⟩, hM⟩ (fun j hj => ?_)) (by omega)
      rw [c2, va_cpy_i ⟨by omega, by omega⟩, b19, va_cpy_i ⟨by omega, by omega⟩]
      congr 1
      omega
set_option maxRecDepth 100000 in
theorem lw_read {L : Nat} {xs : Nat → Int32} {tx : Nat → Option String} (htx : ∀ i t, am_sx[i]? = some t → tx i = some t) {d : Nat} (hd : 14 ≤ d) {s : az_S} {S : zR} {h c n : Nat} {G : Nat → zR} {T : Nat → Int} (H : zkT s S h c G n T) (hh : h + 10 ≤ 10000) {e : List Nat} {N M : Nat} (hN : 1 ≤ N) (hM : 6 ≤ M) : bz_R L xs tx d am_m_L_read 0 (az_ini (am_mL am_m_L_read) [az_r 0]) [] e s N M (fun o e2 t => ∃ v S2, o = .inl (some (az_i v)) ∧ e2 = e ∧ lch s t S S2 h (h + 10) v) := by
  obtain ⟨p, hp8, hc8, hp, hc, hG⟩ := H.2.1
  refine bz_to 0 (pc2 := 0) (lv2 := [some (az_r (0)), none]) (st2 := []) (s2 := s) (rfl) ?_
  refine bz_to 1 (pc2 := 1) (lv2 := [some (az_r (0)), none]) (st2 := [az_r (0)]) (s2 := s) (rfl) ?_
  refine bz_c htx 4 (m2 := am_m_X9_read) (as := [az_r 0]) (rest := []) rfl rfl rfl (by omega) (zs_X9_read (by omega) H.1.1.1 H.1.1.2.1 (by omega) H.2.2.1.2 hh hp hp8 hc hc8) (fun v t q => ?_) (fun E t q => ?_)
  · rcases lch_read H hh hp8 hc8 hp hc hG q with ⟨k1, -⟩ | ⟨k1, -⟩ | ⟨v, S2, k1, k2⟩
    · cases k1
    · cases k1
    · cases k1
      exact bz_retI rfl rfl ⟨_, _, rfl, rfl, k2⟩
  · rcases lch_read H hh hp8 hc8 hp hc hG q with ⟨k1, k2⟩ | ⟨k1, k2⟩ | ⟨v, S2, k1, k2⟩
    · cases k1
      refine ⟨5, 6, [some (az_r (0)), none], N - 1, M - 6, by omega, by omega, rfl, rfl, ?_⟩
      refine bz_to 1 (pc2 := 8) (lv2 := [some (az_r (0)), none]) (st2 := [az_i (-900001)]) (s2 := t) (rfl) ?_
      exact bz_retI rfl rfl ⟨_, _, rfl, rfl, k2⟩
    · cases k1
      refine ⟨9, 10, [some (az_r (0)), none], N - 1, M - 6, by omega, by omega, rfl, rfl, ?_⟩
      refine bz_to 1 (pc2 := 12) (lv2 := [some (az_r (0)), none]) (st2 := [az_i (-900002)]) (s2 := t) (rfl) ?_
      exact bz_retI rfl rfl ⟨_, _, rfl, rfl, k2⟩
    · cases k1
