/-! THE STATE BETWEEN THE LAW'S CALLS -/
def zkk (W S : zR) (h : Nat) : Prop := zrr W S h ∧ zM S
/-- the world S, c worlds before it (the oldest first: G 0 .. G (c - 1)), an empty input buffer -/
def zkS (s : az_S) (S : zR) (h c : Nat) (G : Nat → zR) : Prop :=
  zkk (s 3) S h ∧ (∃ p : Nat, p ≤ 8 ∧ c ≤ 8 ∧ s 17 1 = ((p : Nat) : Int) ∧ s 17 2 = ((c : Nat) : Int) ∧ ∀ i, i < c → zkk (fun j => s 19 ((p + 9 - c + i) % 9 * 184 + j)) (G i) h) ∧ (s 22 1 = 60 ∧ s 22 2 = 0) ∧ s 30 1 = 16
/-- the class's cells that count are as they were -/
def zKc (s t : az_S) : Prop := t 3 = s 3 ∧ t 17 = s 17 ∧ t 19 = s 19 ∧ t 21 = s 21 ∧ t 22 = s 22 ∧ t 0 = s 0 ∧ t 30 1 = s 30 1
/-- and so are the rows behind, up to N -/
def zKx (s t : az_S) (N : Nat) : Prop := zKc s t ∧ ∀ i, 34 ≤ i → i < N → t i = s i
def zKq (s t : az_S) : Prop := zKc s t ∧ ∀ i, 34 ≤ i → t i = s i
theorem zKc_r (s : az_S) : zKc s s := ⟨rfl, rfl, rfl, rfl, rfl, rfl, rfl⟩
theorem zKc_t {s t u : az_S} (h1 : zKc s t) (h2 : zKc t u) : zKc s u := by
  obtain ⟨a1, a2, a3, a4, a5, a6, a7⟩ := h1
  obtain ⟨b1, b2, b3, b4, b5, b6, b7⟩ := h2
  exact ⟨b1.trans a1, b2.trans a2, b3.trans a3, b4.trans a4, b5.trans a5, b6.trans a6, b7.trans a7⟩
theorem zKx_r (s : az_S) (N : Nat) : zKx s s N := ⟨zKc_r s, fun _ _ _ => rfl⟩
theorem zKx_t {s t u : az_S} {N : Nat} (h1 : zKx s t N) (h2 : zKx t u N) : zKx s u N := ⟨zKc_t h1.1 h2.1, fun i a b => (h2.2 i a b).trans (h1.2 i a b)⟩
theorem zKx_q {s t u : az_S} {N : Nat} (h1 : zKx s t N) (h2 : zKq t u) : zKx s u N := ⟨zKc_t h1.1 h2.1, fun i a b => (h2.2 i a).trans (h1.2 i a b)⟩
theorem zKx_m {s t : az_S} {N N2 : Nat} (h1 : zKx s t N) (h : N2 ≤ N) : zKx s t N2 := ⟨h1.1, fun i a b => h1.2 i a (by omega)⟩
theorem zKq_t {s t u : az_S} (h1 : zKq s t) (h2 : zKq t u) : zKq s u := ⟨zKc_t h1.1 h2.1, fun i a => (h2.2 i a).trans (h1.2 i a)⟩
theorem zKq_r (s : az_S) : zKq s s := ⟨zKc_r s, fun _ _ => rfl⟩
theorem zKq_f {s t : az_S} (h : zFq s t) : zKq s t :=
  ⟨⟨h 3 (by decide) (by decide) (by decide) (by decide) (by decide), h 17 (by decide) (by decide) (by decide) (by decide) (by decide), h 19 (by decide) (by decide) (by decide) (by decide) (by decide), h 21 (by decide) (by decide) (by decide) (by decide) (by decide), h 22 (by decide) (by decide) (by decide) (by decide) (by decide), h 0 (by decide) (by decide) (by decide) (by decide) (by decide), by rw [h 30 (by decide) (by decide) (by decide) (by decide) (by decide)]⟩, fun i hi => h i (by omega) (by omega) (by omega) (by omega) (by omega)⟩
/-- a row behind is written -/
theorem zKx_up {s t : az_S} {N i j : Nat} {v : Int} (h : zKx s t N) (hi : N ≤ i) (h34 : 34 ≤ N) : zKx s (am_up t i j v) N := by
  have e : ∀ k, k < N → am_up t i j v k = t k := fun k hk => by
    funext b
    unfold am_up
    rw [if_neg (by omega)]
  obtain ⟨⟨a1, a2, a3, a4, a5, a6, a7⟩, a8⟩ := h
  exact ⟨⟨by rw [e 3 (by omega)]; exact a1, by rw [e 17 (by omega)]; exact a2, by rw [e 19 (by omega)]; exact a3, by rw [e 21 (by omega)]; exact a4, by rw [e 22 (by omega)]; exact a5, by rw [e 0 (by omega)]; exact a6, by rw [e 30 (by omega)]; exact a7⟩, fun k k1 k2 => by rw [e k k2]; exact a8 k k1 k2⟩
theorem zKx_ur {s t : az_S} {N i : Nat} {f : Nat → Int} (h : zKx s t N) (hi : N ≤ i) (h34 : 34 ≤ N) : zKx s (am_ur t i f) N := by
  have e : ∀ k, k < N → am_ur t i f k = t k := fun k hk => by
    funext b
    unfold am_ur
    rw [if_neg (by omega)]
  obtain ⟨⟨a1, a2, a3, a4, a5, a6, a7⟩, a8⟩ := h
  exact ⟨⟨by rw [e 3 (by omega)]; exact a1, by rw [e 17 (by omega)]; exact a2, by rw [e 19 (by omega)]; exact a3, by rw [e 21 (by omega)]; exact a4, by rw [e 22 (by omega)]; exact a5, by rw [e 0 (by omega)]; exact a6, by rw [e 30 (by omega)]; exact a7⟩, fun k k1 k2 => by rw [e k k2]; exact a8 k k1 k2⟩
theorem zkk_up {W S : zR} {h h2 : Nat} (H : zkk W S h) (hl : h ≤ h2) : zkk W S h2 := ⟨zrr_up H.1 hl, H.2⟩
theorem zkS_up {s : az_S} {S : zR} {h h2 c : Nat} {G : Nat → zR} (H : zkS s S h c G) (hl : h ≤ h2) : zkS s S h2 c G := by
  obtain ⟨h1, ⟨p, a1, a2, a3, a4, a5⟩, h3⟩ := H
  exact ⟨zkk_up h1 hl, ⟨p, a1, a2, a3, a4, fun i hi => zkk_up (a5 i hi) hl⟩, h3⟩
theorem zkS_k {s t : az_S} {S : zR} {h c : Nat} {G : Nat → zR} (H : zkS s S h c G) (hk : zKc s t) : zkS t S h c G := by
  obtain ⟨a1, a2, a3, a4, a5, a6, a7⟩ := hk
  unfold zkS
  rw [a1, a2, a3, a5, a7]
  exact H
theorem zkS_x {s t : az_S} {S : zR} {h c N : Nat} {G : Nat → zR} (H : zkS s S h c G) (hk : zKx s t N) : zkS t S h c G := zkS_k H hk.1
theorem zkS_R {s : az_S} {S : zR} {h c : Nat} {G : Nat → zR} (H : zkS s S h c G) : zRel (s 3) S ∧ zInv S h ∧ zJ S ∧ zM S := ⟨H.1.1.1, H.1.1.2.1, H.1.1.2.2, H.1.2⟩
/-! questions, as the law asks them -/
section LK
variable {s : az_S} {S : zR} {h c d : Nat} {G : Nat → zR}
/-- the answer of a question: a number; the state as it was -/
abbrev lkq (s : az_S) (v : Int) : az_O → az_S → Prop := fun o t => o = .inl (some (az_i v)) ∧ zKq s t
theorem lk_of {mt : am_M1} {as : az_L} {es : List Nat} {r : Nat × Int} (hr : r.1 = 0) (H : az_R d mt 0 as [] s (fun o t => o = zoe es r ∧ zFq s t)) : az_R d mt 0 as [] s (lkq s r.2) :=
  az_post H (fun o t q => ⟨by rw [q.1]; unfold zoe; rw [if_pos hr], zKq_f q.2⟩)
def zlA (S : zR) (c : Nat) (w : Int) : Int := (zq_ac S 0 c w).2
theorem lk_account (H : zkS s S h c G) (hh : h ≤ 10000) (hd : 12 ≤ d) {w : Int} (hw : 0 ≤ w ∧ w ≤ 14) : az_R d am_m_X9_account 0 (az_ini (am_mL am_m_X9_account) [az_r 0, az_i w]) [] s (lkq s (zlA S c w)) := by
  obtain ⟨hR, hI, hJ, -⟩ := zkS_R H
  obtain ⟨-, ⟨p, -, -, -, hc, -⟩, ⟨-, hn⟩, -⟩ := H
  exact lk_of (r := zq_ac S 0 c w) (by unfold zq_ac; rw [if_neg (not_not_intro hw)]) (zs_X9_account (by omega) hR hI hh ⟨by omega, by omega⟩ hJ (n := 0) hn hc)
def zlB (S : zR) (b w : Int) : Int := (zq_bridgeOf S b w).2
def zlT (S : zR) (b w : Int) : Int := (zq_trollOf S b w).2
def zlG (S : zR) (b w : Int) : Int := (zq_goatOf S b w).2
theorem lk_bridgeOf (H : zkS s S h c G) (hh : h ≤ 10000) (hd : 12 ≤ d) {b w : Int} (hb : 0 ≤ b ∧ b < ((zn S 0 : Nat) : Int)) (hw : 0 ≤ w ∧ w ≤ 8) : az_R d am_m_X9_bridgeOf 0 (az_ini (am_mL am_m_X9_bridgeOf) [az_r 0, az_i b, az_i w]) [] s (lkq s (zlB S b w)) := by
  obtain ⟨hR, hI, hJ, -⟩ := zkS_R H
  have hn := zn_le hI
  exact lk_of (r := zq_bridgeOf S b w) (by unfold zq_bridgeOf; rw [if_neg (not_not_intro hb), if_neg (not_not_intro hw)]) (az_deep (zs_X9_bridgeOf (d := 12) (by omega) hR hI hh ⟨by omega, by omega⟩ ⟨by omega, by omega⟩) hd)
theorem lk_trollOf (H : zkS s S h c G) (hh : h ≤ 10000) (hd : 12 ≤ d) {b w : Int} (hb : 0 ≤ b ∧ b < ((zn S 1 : Nat) : Int)) (hw : 0 ≤ w ∧ w ≤ 3) : az_R d am_m_X9_trollOf 0 (az_ini (am_mL am_m_X9_trollOf) [az_r 0, az_i b, az_i w]) [] s (lkq s (zlT S b w)) := by
  obtain ⟨hR, hI, hJ, -⟩ := zkS_R H
  have hn := zn_le hI
  exact lk_of (r := zq_trollOf S b w) (by unfold zq_trollOf; rw [if_neg (not_not_intro hb), if_neg (not_not_intro hw)]) (az_deep (zs_X9_trollOf (d := 12) (by omega) hR hI hh ⟨by omega, by omega⟩ ⟨by omega, by omega⟩) hd)
theorem lk_goatOf (H : zkS s S h c G) (hh : h ≤ 10000) (hd : 12 ≤ d) {b w : Int} (hb : 0 ≤ b ∧ b < ((zn S 2 : Nat) : Int)) (hw : 0 ≤ w ∧ w ≤ 5) : az_R d am_m_X9_goatOf 0 (az_ini (am_mL am_m_X9_goatOf) [az_r 0, az_i b, az_i w]) [] s (lkq s (zlG S b w)) := by
  obtain ⟨hR, hI, hJ, -⟩ := zkS_R H
  have hn := zn_le hI
  exact lk_of (r := zq_goatOf S b w) (by unfold zq_goatOf; rw [if_neg (not_not_intro hb), if_neg (not_not_intro hw)]) (az_deep (zs_X9_goatOf (d := 12) (by omega) hR hI hh ⟨by omega, by omega⟩ ⟨by omega, by omega⟩) hd)
theorem lk_due (H : zkS s S h c G) (hh : h ≤ 10000) (hd : 12 ≤ d) {b : Nat} (hb : b < zn S 0) : az_R d am_m_X9_due 0 (az_ini (am_mL am_m_X9_due) [az_r 0, az_i ((b : Nat) : Int)]) [] s (lkq s (zdue S b)) := by
  obtain ⟨hR, hI, hJ, -⟩ := zkS_R H
  have hn := zn_le hI
  have e : zq_due S ((b : Nat) : Int) = (0, zdue S b) := by unfold zq_due; rw [if_neg (not_not_intro ⟨by omega, by omega⟩)]; rfl
  have k := lk_of (r := zq_due S ((b : Nat) : Int)) (by rw [e]) (az_deep (zs_X9_due (s := s) (d := 12) (by omega) hR hI hh ⟨by omega, by omega⟩) hd)
  rw [e] at k
  exact k
theorem lk_takes (H : zkS s S h c G) (hh : h ≤ 10000) (hd : 12 ≤ d) {b : Nat} (hb : b < zn S 0) : az_R d am_m_X9_takes 0 (az_ini (am_mL am_m_X9_takes) [az_r 0, az_i ((b : Nat) : Int)]) [] s (lkq s (ztk S b)) := by
  obtain ⟨hR, hI, hJ, -⟩ := zkS_R H
  have hn := zn_le hI
  have e : zq_takes S ((b : Nat) : Int) = (0, ztk S b) := by unfold zq_takes; rw [if_neg (not_not_intro ⟨by omega, by omega⟩)]; rfl
  have k := lk_of (r := zq_takes S ((b : Nat) : Int)) (by rw [e]) (az_deep (zs_X9_takes (s := s) (d := 12) (by omega) hR hI hh ⟨by omega, by omega⟩) hd)
  rw [e] at k
  exact k
theorem lk_v {mt : am_M1} {as : az_L} {v : Int} (H : az_R d mt 0 as [] s (fun o t => o = .inl (some (az_i v)) ∧ zFq s t)) : az_R d mt 0 as [] s (lkq s v) := az_post H (fun o t q => ⟨q.1, zKq_f q.2⟩)
theorem lk_isGeneral (H : zkS s S h c G) (hh : h ≤ 10000) (hd : 12 ≤ d) : az_R d am_m_X9_isGeneral 0 (az_ini (am_mL am_m_X9_isGeneral) [az_r 0]) [] s (lkq s (az_b (zgen S))) := by
  obtain ⟨hR, hI, hJ, -⟩ := zkS_R H
  exact lk_v (zs_X9_isGeneral (by omega) hR hI hh)
theorem lk_counted (H : zkS s S h c G) (hh : h ≤ 10000) (hd : 12 ≤ d) : az_R d am_m_X9_counted 0 (az_ini (am_mL am_m_X9_counted) [az_r 0]) [] s (lkq s (zcp S)) := by
  obtain ⟨hR, hI, hJ, -⟩ := zkS_R H
  exact lk_v (zs_X9_counted (by omega) hR hI hh)
theorem lk_countedAgain (H : zkS s S h c G) (hh : h ≤ 10000) (hd : 12 ≤ d) : az_R d am_m_X9_countedAgain 0 (az_ini (am_mL am_m_X9_countedAgain) [az_r 0]) [] s (lkq s (zcc S)) := by
  obtain ⟨hR, hI, hJ, -⟩ := zkS_R H
  exact lk_v (zs_X9_countedAgain (by omega) hR hI hh)
/-- coins are held: the law of the class's own isWell -/
theorem zM_held {S : zR} {h : Nat} (hI : zInv S h) (hM : zM S) : S 5 = zsg S 1 + zst S 1 + zchs S := by
  have hn := zn_le hI
  obtain ⟨h1, -, -, h4⟩ := hM
  have pad : ∀ (n m : Nat) (f : Nat → Int), n ≤ m → (∀ i, n ≤ i → i < m → f i = 0) → zs m f = zs n f := by
    intro n m f hnm hf
    induction m with
    | zero =>
      have : n = 0 := by omega
      rw [this]
    | succ m ih =>
      by_cases q : n = m + 1
      · rw [q]
      · show zs m f + f m = zs n f
        rw [ih (by omega) (fun i a b => hf i a (by omega)), hf m (by omega) (by omega)]
        omega
  have e1 : zPu S = zsg S 1 := pad (zn S 2) 5 _ hn.2.2 (fun g a b => ((hI.2.2.2.2.1 g b).2.2.2.2.2.2.2.2.2.2 a).1)
  have e2 : zEa S = zst S 1 := pad (zn S 1) 6 _ hn.2.1 (fun t a b => h4 t b a)
  have e3 : zPd S = zchs S := by
    have e4 : ∀ b, b < 10 → zs5 S b = zch S b := fun b hb => pad (zn S 2) 5 _ hn.2.2 (fun g a k => (hI.2.2.1 b hb).2.2.2.2.2.1 g k a)
    have e5 : zPd S = zs 10 (fun b => zch S b) := zs_ext (fun b hb => e4 b hb)
    rw [e5]
    refine pad (zn S 0) 10 _ hn.1 (fun b a k => ?_)
    rw [← e4 b k]
    have h9 := ((hI.2.2.1 b k).2.2.2.2.2.2 a).2.2
    show zs 5 (fun g => zB S b (7 + g)) = 0
    rw [zs_ext (g := fun _ => 0) (fun g hg => h9 g hg)]
    rfl
  rw [h1, e1, e2, e3]
theorem lk_isWell (H : zkS s S h c G) (hh : h ≤ 10000) (hd : 12 ≤ d) : az_R d am_m_X9_isWell 0 (az_ini (am_mL am_m_X9_isWell) [az_r 0]) [] s (lkq s 1) := by
  obtain ⟨hR, hI, hJ, hM⟩ := zkS_R H
  have k := lk_v (zs_X9_isWell (d := d) (s := s) (by omega) hR hI hh)
  rw [az_b1 (zM_held hI hM)] at k
  exact k
end LK
/-- a question of the class in the law's machine -/
theorem bz_q {L : Nat} {xs : Nat → Int32} {tx : Nat → Option String} {d : Nat} {mt : am_M1} {pc : Nat} {lv : az_L} {st : List az_V} {e : List Nat} {s : az_S} {N M : Nat} {Q : az_O → List Nat → az_S → Prop} {ins : Instr} {len : Nat} {m2 : am_M1} {as rest : List az_V} {v : Int} (htx : ∀ i t, am_sx[i]? = some t → tx i = some t) (pc2 : Nat) (hf : am_find pc (am_c mt) = some (ins, len)) (hc : az_call mt ins st = some (m2, as, rest)) (hp : pc + len = pc2) (hd : 0 < d) (H : az_R (d - 1) m2 0 (az_ini (am_mL m2) as) [] s (lkq s v))
    (H1 : ∀ t, zKq s t → bz_R L xs tx d mt pc2 lv (az_i v :: rest) e t N M Q) : bz_R L xs tx d mt pc lv st e s N M Q := by
  refine bz_cq htx pc2 hf hc hp hd H (fun w t q => ?_) (fun E t q => ?_)
  · have := q.1
    cases this
    exact H1 t q.2
  · have := q.1
    cases this
