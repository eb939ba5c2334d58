/-! CHANGES, as the law sees them -/
theorem zkk_c {W W2 S : zR} {h : Nat} (H : zkk W S h) (e : ∀ j, j < 184 → W2 j = W j) : zkk W2 S h := ⟨zrr_c H.1 (fun _ _ => rfl) e, H.2⟩
/-- what a command answers: refused it changes nothing, done its number is small, bridges don't go -/
def zok (S : zR) (r : zQ) : Prop := (r.1 ≠ 0 → r.2.2.2 = S) ∧ (r.1 = 0 → -1 ≤ r.2.1 ∧ r.2.1 ≤ 900000) ∧ zn S 0 ≤ zn r.2.2.2 0 ∧ r.1 ≤ 3
theorem zok_n {S : zR} {k : Nat} {a b : Int} (hk : 1 ≤ k ∧ k ≤ 3) : zok S (k, a, b, S) := ⟨fun _ => rfl, fun q => absurd (show k = 0 from q) (by omega), Nat.le_refl _, hk.2⟩
theorem zok_d {S T : zR} {v b : Int} (hv : -1 ≤ v ∧ v ≤ 900000) (hn : T 0 = S 0) : zok S (0, v, b, T) := ⟨fun q => absurd rfl q, fun _ => hv, Nat.le_of_eq (by show (S 0).toNat = (T 0).toNat; rw [hn]), by show 0 ≤ 3; decide⟩
theorem zok_bridge {S : zR} {h : Nat} (hI : zInv S h) (hh : h ≤ 10000) (o p q r : Int) : zok S (zo_bridge S o p q r) := by
  have hn := zn_le hI
  have hz := zn_eq hI
  unfold zo_bridge
  split
  · exact zok_n (by decide)
  split
  · exact zok_n (by decide)
  split
  · exact zok_n (by decide)
  split
  · exact zok_n (by decide)
  refine ⟨fun w => absurd rfl w, fun _ => ⟨by show -1 ≤ ((zn S 0 : Nat) : Int); omega, by show ((zn S 0 : Nat) : Int) ≤ 900000; omega⟩, ?_, by show 0 ≤ 3; decide⟩
  show (S 0).toNat ≤ (zbS S o p q r 0).toNat
  have e : zbS S o p q r 0 = S 0 + 1 := zup_eq _ _ _
  rw [e]
  omega
theorem zok_troll {S : zR} {h : Nat} (hI : zInv S h) : zok S (zo_troll S) := by
  have hn := zn_le hI
  unfold zo_troll
  split
  · exact zok_n (by decide)
  · exact zok_d (by omega) ((zup_ne _ _ (by omega)).trans (zup_ne _ _ (by omega)))
theorem zok_goat {S : zR} {h : Nat} (hI : zInv S h) (l c : Int) : zok S (zo_goat S l c) := by
  have hn := zn_le hI
  unfold zo_goat
  split
  · exact zok_n (by decide)
  split
  · exact zok_n (by decide)
  split
  · exact zok_n (by decide)
  · refine zok_d (by omega) ?_
    rw [zup_ne _ _ (by omega), zup_ne _ _ (by omega), zup_ne _ _ (by omega), zup_ne _ _ (by omega)]
theorem zok_post {S : zR} {h : Nat} (hI : zInv S h) (hh : h ≤ 10000) (t b : Int) : zok S (zo_post S t b) := by
  have hn := zn_le hI
  unfold zo_post
  split
  · exact zok_n (by decide)
  split
  · exact zok_n (by decide)
  split
  · exact zok_n (by decide)
  split
  · exact zok_n (by decide)
  · have := zI_t hI hh (t := t.toNat) (by omega)
    exact zok_d (by omega) (zup_ne _ _ (by omega))
theorem zok_leave {S : zR} {h : Nat} (hI : zInv S h) (hh : h ≤ 10000) (t : Int) : zok S (zo_leave S t) := by
  have hn := zn_le hI
  unfold zo_leave
  split
  · exact zok_n (by decide)
  split
  · exact zok_n (by decide)
  split
  · exact zok_n (by decide)
  · have := zI_t hI hh (t := t.toNat) (by omega)
    exact zok_d (by omega) (zup_ne _ _ (by omega))
theorem zok_riddle {S : zR} {h : Nat} (hI : zInv S h) (hh : h ≤ 10000) (t d n : Int) : zok S (zo_riddle S t d n) := by
  have hn := zn_le hI
  have h3 := zI_h hI hh
  unfold zo_riddle
  split
  · exact zok_n (by decide)
  split
  · exact zok_n (by decide)
  split
  · exact zok_n (by decide)
  · exact zok_d (by omega) ((zup_ne _ _ (by omega)).trans (zup_ne _ _ (by omega)))
theorem zok_fog {S : zR} {h : Nat} (hI : zInv S h) (hh : h ≤ 10000) (b n : Int) : zok S (zo_fog S b n) := by
  have hn := zn_le hI
  have h3 := zI_h hI hh
  unfold zo_fog
  split
  · exact zok_n (by decide)
  split
  · exact zok_n (by decide)
  split
  · exact zok_n (by decide)
  · exact zok_d (by omega) (zup_ne _ _ (by omega))
theorem zok_price {S : zR} {h : Nat} (hI : zInv S h) (hh : h ≤ 10000) (b r : Int) : zok S (zo_price S b r) := by
  have hn := zn_le hI
  unfold zo_price
  split
  · exact zok_n (by decide)
  split
  · exact zok_n (by decide)
  split
  · exact zok_n (by decide)
  split
  · exact zok_n (by decide)
  · have := zI_b hI hh (b := b.toNat) (by omega)
    exact zok_d (by omega) (zup_ne _ _ (by omega))
theorem zok_cross {S : zR} {h : Nat} (hI : zInv S h) (hh : h ≤ 10000) (g b : Int) : zok S (zo_cross S g b) := by
  have hn := zn_le hI
  unfold zo_cross
  split
  · exact zok_n (by decide)
  split
  · exact zok_n (by decide)
  split
  · exact zok_n (by decide)
  split
  · exact zok_n (by decide)
  · have := ztk_r hI hh (b := b.toNat) (by omega)
    refine zok_d (by omega) ?_
    unfold zcS
    rw [zup_ne _ _ (by omega), zup_ne _ _ (by omega), zup_ne _ _ (by omega), zup_ne _ _ (by omega), zup_ne _ _ (by omega)]
    unfold zpS
    split
    · rw [zup_ne _ _ (by omega), zup_ne _ _ (by omega)]
    · split
      · rw [zup_ne _ _ (by omega), zup_ne _ _ (by omega)]
      · rw [zup_ne _ _ (by omega)]
theorem zs_b {n : Nat} {p : Nat → Prop} [DecidablePred p] : 0 ≤ zs n (fun b => az_b (p b)) ∧ zs n (fun b => az_b (p b)) ≤ n := by
  have := zs_le (n := n) (f := fun b => az_b (p b)) (a := 0) (b := 1) (fun i _ => by
    unfold az_b
    split <;> omega)
  omega
theorem zok_dispute {S : zR} {h : Nat} (hI : zInv S h) (g b : Int) : zok S (zo_dispute S g b) := by
  have hn := zn_le hI
  unfold zo_dispute
  split
  · exact zok_n (by decide)
  split
  · exact zok_n (by decide)
  split
  · exact zok_n (by decide)
  · have e : zn (zup S (6 + 12 * b.toNat + 5) g) 0 = zn S 0 := zn_up (by omega)
    have k : 0 ≤ zcd (zup S (6 + 12 * b.toNat + 5) g) ∧ zcd (zup S (6 + 12 * b.toNat + 5) g) ≤ (zn (zup S (6 + 12 * b.toNat + 5) g) 0 : Nat) := zs_b
    rw [e] at k
    exact zok_d (by omega) (zup_ne _ _ (by omega))
theorem zok_settle {S : zR} {h : Nat} (hI : zInv S h) (hh : h ≤ 10000) (b f : Int) : zok S (zo_settle S b f) := by
  have hn := zn_le hI
  unfold zo_settle
  split
  · exact zok_n (by decide)
  split
  · exact zok_n (by decide)
  · have k := zs_le (n := 5) (f := fun g => zB S b.toNat (7 + g)) (a := 0) (b := 99) (fun g hg => zI_p hI hh (by omega) hg)
    have hat := zat_r hI b.toNat
    refine zok_d (by unfold zs5; omega) ?_
    unfold zsS
    rw [zup_ne _ _ (by omega), zsl_o _ _ _ _ _ (fun g hg => by omega)]
    unfold zsT
    split
    · exact zup_ne _ _ (by omega)
    · rfl
theorem zok_strike {S : zR} {h : Nat} (hI : zInv S h) (hh : h ≤ 10000) (g : Int) {v : Int} (hv : 0 ≤ v ∧ v ≤ 1) : zok S (zo_strike S g v) := by
  have hn := zn_le hI
  unfold zo_strike
  split
  · exact zok_n (by decide)
  split
  · exact zok_n (by decide)
  · have e : zn (zup S (150 + 5 * g.toNat + 2) v) 2 = zn S 2 := zn_up (by omega)
    have k := zs_le (n := zn S 2) (f := fun j => zG (zup S (150 + 5 * g.toNat + 2) v) j 2) (a := 0) (b := 1) (fun j hj => by
      by_cases q : j = g.toNat
      · rw [q]
        have : zG (zup S (150 + 5 * g.toNat + 2) v) g.toNat 2 = v := zup_eq _ _ _
        omega
      · have : zG (zup S (150 + 5 * g.toNat + 2) v) j 2 = zG S j 2 := zup_ne _ _ (by omega)
        rw [this]
        exact (zI_g hI hh (g := j) (by omega)).2.2.1)
    refine zok_d ?_ (zup_ne _ _ (by omega))
    unfold zstr
    rw [e]
    omega
theorem zok_pass {S : zR} {h : Nat} (hI : zInv S h) (n : Int) : zok S (zo_pass S n) := by
  have hn := zn_le hI
  unfold zo_pass
  split
  · exact zok_n (by decide)
  · have k : 0 ≤ zcr S n ∧ zcr S n ≤ (zn S 1 : Nat) := zs_b
    exact zok_d (by omega) (zup_ne _ _ (by omega))
theorem zok_cm {S : zR} {h : Nat} (hI : zInv S h) (hh : h ≤ 10000) {k : Nat} (hk : k < 13) (L : List Int) : zok S (zcm S k L) := by
  have hc : k = 0 ∨ k = 1 ∨ k = 2 ∨ k = 3 ∨ k = 4 ∨ k = 5 ∨ k = 6 ∨ k = 7 ∨ k = 8 ∨ k = 9 ∨ k = 10 ∨ k = 11 ∨ k = 12 := by omega
  rcases hc with rfl | rfl | rfl | rfl | rfl | rfl | rfl | rfl | rfl | rfl | rfl | rfl | rfl
  · exact zok_bridge hI hh _ _ _ _
  · exact zok_troll hI
  · exact zok_goat hI _ _
  · exact zok_post hI hh _ _
  · exact zok_cross hI hh _ _
  · exact zok_dispute hI _ _
  · exact zok_leave hI hh _
  · exact zok_strike hI hh _ (by decide)
  · exact zok_strike hI hh _ (by decide)
  · exact zok_riddle hI hh _ _ _
  · exact zok_fog hI hh _ _
  · exact zok_settle hI hh _ _
  · exact zok_pass hI _
/-- the past with a world more -/
theorem zkS_past {s t : az_S} {S S2 : zR} {h h2 c p : Nat} {G : Nat → zR} (hl : h ≤ h2) (hW : zkk (s 3) S h) (hp : p ≤ 8) (hc : c ≤ 8) (hG : ∀ i, i < c → zkk (fun j => s 19 ((p + 9 - c + i) % 9 * 184 + j)) (G i) h) (e1 : t 17 1 = ((if p = 8 then 0 else p + 1 : Nat) : Int)) (e2 : t 17 2 = ((if c = 8 then 8 else c + 1 : Nat) : Int)) (e19 : t 19 = va_cpy (s 3) (s 19) 0 (p * 184) 184) (hT : zkk (t 3) S2 h2) (h22 : t 22 1 = 60 ∧ t 22 2 = 0) (h30 : t 30 1 = 16) : ∃ c2 G2, zkS t S2 h2 (c2 + 1) G2 ∧ G2 c2 = S := by
  by_cases q : c = 8
  · subst q
    refine ⟨7, fun i => if i = 7 then S else G (i + 1), ⟨hT, ⟨(if p = 8 then 0 else p + 1), by split <;> omega, by decide, e1, e2, fun i hi => ?_⟩, h22, h30⟩, if_pos rfl⟩
    rw [e19]
    have hs : ((if p = 8 then 0 else p + 1) + 9 - (7 + 1) + i) % 9 = (p + 2 + i) % 9 := by split <;> omega
    rw [hs]
    by_cases q2 : i = 7
    · subst q2
      show zkk _ (if 7 = 7 then S else G (7 + 1)) h2
      rw [if_pos rfl]
      refine zkk_c (zkk_up hW hl) (fun j hj => ?_)
      unfold va_cpy
      rw [if_pos (by omega)]
      congr 1
      omega
    · show zkk _ (if i = 7 then S else G (i + 1)) h2
      rw [if_neg q2]
      refine zkk_c (zkk_up (hG (i + 1) (by omega)) hl) (fun j hj => ?_)
      unfold va_cpy
      rw [if_neg (by omega)]
      congr 1
      omega
  · rw [if_neg q] at e2
    refine ⟨c, fun i => if i = c then S else G i, ⟨hT, ⟨(if p = 8 then 0 else p + 1), by split <;> omega, by omega, e1, e2, fun i hi => ?_⟩, h22, h30⟩, if_pos rfl⟩
    rw [e19]
    have hs : ((if p = 8 then 0 else p + 1) + 9 - (c + 1) + i) % 9 = (p + 9 - c + i) % 9 := by split <;> omega
    rw [hs]
    by_cases q2 : i = c
    · subst q2
      show zkk _ (if i = i then S else G i) h2
      rw [if_pos rfl]
      refine zkk_c (zkk_up hW hl) (fun j hj => ?_)
      unfold va_cpy
      rw [if_pos (by omega)]
      congr 1
      omega
    · show zkk _ (if i = c then S else G i) h2
      rw [if_neg q2]
      refine zkk_c (zkk_up (hG i (by omega)) hl) (fun j hj => ?_)
      unfold va_cpy
      rw [if_neg (by omega)]
/-- the past, its free place written -/
theorem zkS_free {s t : az_S} {S S2 : zR} {h h2 c p : Nat} {G : Nat → zR} {f : Nat → Int} (hl : h ≤ h2) (hp : p ≤ 8) (hc : c ≤ 8) (hG : ∀ i, i < c → zkk (fun j => s 19 ((p + 9 - c + i) % 9 * 184 + j)) (G i) h) (e1 : t 17 1 = ((p : Nat) : Int)) (e2 : t 17 2 = ((c : Nat) : Int)) (e19 : t 19 = va_cpy f (s 19) 0 (p * 184) 184) (hT : zkk (t 3) S2 h2) (h22 : t 22 1 = 60 ∧ t 22 2 = 0) (h30 : t 30 1 = 16) : zkS t S2 h2 c G := by
  refine ⟨hT, ⟨p, hp, hc, e1, e2, fun i hi => ?_⟩, h22, h30⟩
  rw [e19]
  refine zkk_c (zkk_up (hG i hi) hl) (fun j hj => ?_)
  unfold va_cpy
  rw [if_neg (by omega)]
/-- what a change leaves, with the number that the law takes for its answer -/
def lch (s t : az_S) (S S2 : zR) (h h2 : Nat) (v : Int) : Prop :=
  ((∀ i, 34 ≤ i → t i = s i) ∧ t 21 = s 21 ∧ t 0 5 = s 0 5) ∧ zn S 0 ≤ zn S2 0 ∧ ((-900000 < v ∧ v ≤ 900000 ∧ ∃ c2 G2, zkS t S2 h2 (c2 + 1) G2 ∧ G2 c2 = S) ∨ (-900003 ≤ v ∧ v ≤ -900001 ∧ S2 = S ∧ ∃ c2 G2, zkS t S2 h2 c2 G2))
theorem lch_of {s t : az_S} {S : zR} {h c p : Nat} {G : Nat → zR} {r : zQ} (H : zkS s S h c G) (hp8 : p ≤ 8) (hc8 : c ≤ 8) (hp : s 17 1 = ((p : Nat) : Int)) (hc : s 17 2 = ((c : Nat) : Int)) (hG : ∀ i, i < c → zkk (fun j => s 19 ((p + 9 - c + i) % 9 * 184 + j)) (G i) h) (P : zPc s t p c r) (hk : zok S r) (hI : zInv r.2.2.2 (h + 1)) (hJ : zJ r.2.2.2) (hM : zM r.2.2.2) {v : Int} (hv : (r.1 = 0 ∧ v = r.2.1) ∨ (r.1 ≠ 0 ∧ -900003 ≤ v ∧ v ≤ -900001)) : lch s t S r.2.2.2 h (h + 1) v := by
  obtain ⟨a1, a2, a3, a4, a5, a6, a7⟩ := P
  obtain ⟨k1, k2, k3, k4⟩ := hk
  have e22 : t 22 = s 22 := a7 22 (by decide) (by decide) (by decide) (by decide) (by decide)
  have e30 : t 30 = s 30 := a7 30 (by decide) (by decide) (by decide) (by decide) (by decide)
  have e0 : t 0 = s 0 := a7 0 (by decide) (by decide) (by decide) (by decide) (by decide)
  refine ⟨⟨fun i hi => a7 i (by omega) (by omega) (by omega) (by omega) (by omega), a7 21 (by decide) (by decide) (by decide) (by decide) (by decide), by rw [e0]⟩, k3, ?_⟩
  have hT : zkk (t 3) r.2.2.2 (h + 1) := ⟨⟨a1, hI, hJ⟩, hM⟩
  rcases hv with ⟨w1, w2⟩ | ⟨w1, w2⟩
  · left
    have b := k2 w1
    obtain ⟨c2, G2, z1, z2⟩ := zkS_past (h2 := h + 1) (by omega) H.1 hp8 hc8 hG (a2 w1).1 (a2 w1).2 a4 hT (by rw [e22]; exact H.2.2.1) (by rw [e30]; exact H.2.2.2)
    exact ⟨by omega, by omega, c2, G2, z1, z2⟩
  · right
    refine ⟨w2.1, w2.2, k1 w1, c, G, ?_⟩
    exact zkS_free (S := S) (h2 := h + 1) (by omega) hp8 hc8 hG ((a3 w1).1.trans hp) ((a3 w1).2.trans hc) a4 hT (by rw [e22]; exact H.2.2.1) (by rw [e30]; exact H.2.2.2)
/-- a change, as a method of the law answers it: the world that it leaves -/
abbrev lwc (e : List Nat) (s : az_S) (S S2 : zR) (h h2 : Nat) : az_O → List Nat → az_S → Prop := fun o e2 t => ∃ v, o = .inl (some (az_i v)) ∧ e2 = e ∧ lch s t S S2 h h2 v
abbrev lwq (e : List Nat) (s : az_S) (v : Int) : az_O → List Nat → az_S → Prop := fun o e2 t => o = .inl (some (az_i v)) ∧ e2 = e ∧ zKq s t
theorem zout_l {r : zQ} {v : Option az_V} (h : (Sum.inl v : az_O) = zout r) : r.1 = 0 ∧ v = some (az_i r.2.1) := by
  unfold zout at h
  by_cases q : r.1 = 0
  · rw [if_pos q] at h
    exact ⟨q, Sum.inl.inj h⟩
  · rw [if_neg q] at h
    cases h
theorem zout_r {r : zQ} {E : Nat} (h : (Sum.inr E : az_O) = zout r) : r.1 ≠ 0 ∧ ((r.1 = 1 ∧ E = 3) ∨ (r.1 = 2 ∧ E = 1) ∨ (r.1 ≠ 1 ∧ r.1 ≠ 2 ∧ E = 4)) := by
  unfold zout at h
  by_cases q : r.1 = 0
  · rw [if_pos q] at h
    cases h
  · rw [if_neg q] at h
    have h2 := Sum.inr.inj h
    refine ⟨q, ?_⟩
    by_cases q1 : r.1 = 1
    · rw [if_pos q1] at h2; exact Or.inl ⟨q1, h2⟩
    · rw [if_neg q1] at h2
      by_cases q2 : r.1 = 2
      · rw [if_pos q2] at h2; exact Or.inr (Or.inl ⟨q2, h2⟩)
      · rw [if_neg q2] at h2; exact Or.inr (Or.inr ⟨q1, q2, h2⟩)
theorem zoe_l {l : List Nat} {r : Nat × Int} {v : Option az_V} (h : (Sum.inl v : az_O) = zoe l r) : r.1 = 0 ∧ v = some (az_i r.2) := by
  unfold zoe at h
  by_cases q : r.1 = 0
  · rw [if_pos q] at h
    exact ⟨q, Sum.inl.inj h⟩
  · rw [if_neg q] at h
    cases h
theorem zoe_r {l : List Nat} {r : Nat × Int} {E : Nat} (h : (Sum.inr E : az_O) = zoe l r) : r.1 ≠ 0 ∧ E = l.getD (r.1 - 1) 0 := by
  unfold zoe at h
  by_cases q : r.1 = 0
  · rw [if_pos q] at h
    cases h
  · rw [if_neg q] at h
    exact ⟨q, Sum.inr.inj h⟩
