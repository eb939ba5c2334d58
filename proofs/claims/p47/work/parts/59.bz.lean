/-! THE LAW'S MACHINE: runs with rows of ints that come and stay, handlers, the script; cells and slots are counted -/
abbrev bz_g : Nat → Nat → Int64 := fun _ _ => 0
abbrev bz_d : Nat → Nat → UInt64 := fun _ _ => 0
def bz_R (L : Nat) (xs : Nat → Int32) (tx : Nat → Option String) (d : Nat) (mt : am_M1) (pc : Nat) (lv : az_L) (st : List az_V) (e : List Nat) (s : az_S) (N M : Nat) (Q : az_O → List Nat → az_S → Prop) : Prop :=
  ∃ n o e2 t c k, am_run L xs n tx d mt pc (az_el lv) (st.map az_e) (az_KE e, az_G s, bz_g, bz_d) false = some (az_eo o, (az_KE e2, az_G t, bz_g, bz_d), false, c, k) ∧ c ≤ N ∧ k ≤ M ∧ Q o e2 t
theorem bz_len (e : List Nat) : (az_KE e).length = 34 + e.length := by
  rw [List.length_append, List.length_map]
  rfl
theorem bz_at {e : List Nat} {j n : Nat} (h : e[j]? = some n) : (az_KE e)[34 + j]? = some (.inl (0, n)) := by
  have h34 : az_K.length = 34 := rfl
  rw [List.getElem?_append_right (by omega), h34, Nat.add_sub_cancel_left, List.getElem?_map, h]
  rfl
section BZR
variable {L : Nat} {xs : Nat → Int32} {tx : Nat → Option String} {d : Nat} {mt : am_M1} {pc : Nat} {lv : az_L} {st : List az_V} {e : List Nat} {s : az_S} {N M : Nat} {Q : az_O → List Nat → az_S → Prop}
theorem bz_step {pc2 : Nat} {lv2 : az_L} {st2 : List az_V} {s2 : az_S} (h : ∀ n : Nat, am_run L xs (n + 1) tx d mt pc (az_el lv) (st.map az_e) (az_KE e, az_G s, bz_g, bz_d) false = am_run L xs n tx d mt pc2 (az_el lv2) (st2.map az_e) (az_KE e, az_G s2, bz_g, bz_d) false) (H : bz_R L xs tx d mt pc2 lv2 st2 e s2 N M Q) : bz_R L xs tx d mt pc lv st e s N M Q := by
  obtain ⟨n, o, e2, t, c, k, h1, h2⟩ := H
  exact ⟨n + 1, o, e2, t, c, k, by rw [h]; exact h1, h2⟩
theorem bz_wk {N2 M2 : Nat} {Q2 : az_O → List Nat → az_S → Prop} (H : bz_R L xs tx d mt pc lv st e s N M Q) (hN : N ≤ N2) (hM : M ≤ M2) (h : ∀ o e2 t, Q o e2 t → Q2 o e2 t) : bz_R L xs tx d mt pc lv st e s N2 M2 Q2 := by
  obtain ⟨n, o, e2, t, c, k, h1, h2, h3, h4⟩ := H
  exact ⟨n, o, e2, t, c, k, h1, by omega, by omega, h o e2 t h4⟩
/-- a stretch of instructions without a choice -/
theorem bz_to (k : Nat) {pc2 : Nat} {lv2 : az_L} {st2 : List az_V} {s2 : az_S} (h : az_go k mt pc lv st s = some (pc2, lv2, st2, s2)) (H : bz_R L xs tx d mt pc2 lv2 st2 e s2 N M Q) : bz_R L xs tx d mt pc lv st e s N M Q := by
  induction k generalizing pc lv st s with
  | zero => cases h; exact H
  | succ k ih =>
    unfold az_go at h
    cases hf : am_find pc (am_c mt) with
    | none => rw [hf] at h; cases h
    | some q =>
      obtain ⟨ins, len⟩ := q
      rw [hf] at h
      dsimp only at h
      cases h1 : az_simple ins len pc lv st with
      | some q =>
        obtain ⟨pc3, lv3, st3⟩ := q
        rw [h1] at h
        dsimp only at h
        exact bz_step (fun n => am_1s hf (az_simple_ok h1)) (ih h)
      | none =>
        rw [h1] at h
        dsimp only at h
        cases h2 : az_heap mt ins st s with
        | none => rw [h2] at h; cases h
        | some q =>
          obtain ⟨st3, s3⟩ := q
          rw [h2] at h
          dsimp only at h
          exact bz_step (fun n => am_1h hf (az_heap_ok h2 len pc (az_el lv) L xs tx e bz_g bz_d).1 (az_heap_ok h2 len pc (az_el lv) L xs tx e bz_g bz_d).2) (ih h)
theorem bz_ifc {c : Jvm.ClassFile.Cond} {off : Int} {x : Int} {len : Nat} (pc2 pc3 : Nat) (hf : am_find pc (am_c mt) = some (.ifCond c off, len)) (hz : 0 ≤ (pc : Int) + off ∧ am_tgt pc off = pc2 ∧ pc + 3 = pc3) (hx : az_in x) (H1 : az_cnd c x 0 → bz_R L xs tx d mt pc2 lv st e s N M Q) (H2 : ¬ az_cnd c x 0 → bz_R L xs tx d mt pc3 lv st e s N M Q) : bz_R L xs tx d mt pc lv (.inl x :: st) e s N M Q := by
  have h0 : az_in 0 := ⟨by decide, by decide⟩
  have key : ∀ b : Bool, am_cond c (Int32.ofInt x) 0 = b → am_simple (.ifCond c off) len pc (az_el lv) ((.inl x :: st : List az_V).map az_e) = some (if b then pc2 else pc3, az_el lv, st.map az_e) := fun b hb => by
    show am_br (am_cond c (Int32.ofInt x) 0) pc off _ _ = _
    rw [hb]
    exact az_br hz _ _
  by_cases hc : az_cnd c x 0
  · exact bz_step (fun n => am_1s hf (key true ((az_cnd_iff c hx h0).mpr hc))) (H1 hc)
  · exact bz_step (fun n => am_1s hf (key false (by
      cases hq : am_cond c (Int32.ofInt x) 0 with
      | false => rfl
      | true => exact absurd ((az_cnd_iff c hx h0).mp hq) hc))) (H2 hc)
theorem bz_if2 {c : Jvm.ClassFile.Cond} {off : Int} {x y : Int} {len : Nat} (pc2 pc3 : Nat) (hf : am_find pc (am_c mt) = some (.if_icmp c off, len)) (hz : 0 ≤ (pc : Int) + off ∧ am_tgt pc off = pc2 ∧ pc + 3 = pc3) (hx : az_in x) (hy : az_in y) (H1 : az_cnd c x y → bz_R L xs tx d mt pc2 lv st e s N M Q) (H2 : ¬ az_cnd c x y → bz_R L xs tx d mt pc3 lv st e s N M Q) : bz_R L xs tx d mt pc lv (.inl y :: .inl x :: st) e s N M Q := by
  have key : ∀ b : Bool, am_cond c (Int32.ofInt x) (Int32.ofInt y) = b → am_simple (.if_icmp c off) len pc (az_el lv) ((.inl y :: .inl x :: st : List az_V).map az_e) = some (if b then pc2 else pc3, az_el lv, st.map az_e) := fun b hb => by
    show am_br (am_cond c (Int32.ofInt x) (Int32.ofInt y)) pc off _ _ = _
    rw [hb]
    exact az_br hz _ _
  by_cases hc : az_cnd c x y
  · exact bz_step (fun n => am_1s hf (key true ((az_cnd_iff c hx hy).mpr hc))) (H1 hc)
  · exact bz_step (fun n => am_1s hf (key false (by
      cases hq : am_cond c (Int32.ofInt x) (Int32.ofInt y) with
      | false => rfl
      | true => exact absurd ((az_cnd_iff c hx hy).mp hq) hc))) (H2 hc)
theorem bz_ifbe {off : Int} {p : Prop} [Decidable p] {len : Nat} (pc2 pc3 : Nat) (hf : am_find pc (am_c mt) = some (.ifCond .eq off, len)) (hz : 0 ≤ (pc : Int) + off ∧ am_tgt pc off = pc2 ∧ pc + 3 = pc3) (H1 : ¬ p → bz_R L xs tx d mt pc2 lv st e s N M Q) (H2 : p → bz_R L xs tx d mt pc3 lv st e s N M Q) : bz_R L xs tx d mt pc lv (.inl (az_b p) :: st) e s N M Q :=
  bz_ifc pc2 pc3 hf hz az_b_in (fun h => H1 (fun q => by rw [az_b1 q] at h; exact absurd (show (1 : Int) = 0 from h) (by decide))) (fun h => H2 (by
    by_cases q : p
    · exact q
    · rw [az_b0 q] at h; exact absurd rfl h))
theorem bz_ifbn {off : Int} {p : Prop} [Decidable p] {len : Nat} (pc2 pc3 : Nat) (hf : am_find pc (am_c mt) = some (.ifCond .ne off, len)) (hz : 0 ≤ (pc : Int) + off ∧ am_tgt pc off = pc2 ∧ pc + 3 = pc3) (H1 : p → bz_R L xs tx d mt pc2 lv st e s N M Q) (H2 : ¬ p → bz_R L xs tx d mt pc3 lv st e s N M Q) : bz_R L xs tx d mt pc lv (.inl (az_b p) :: st) e s N M Q :=
  bz_ifc pc2 pc3 hf hz az_b_in (fun h => H1 (by
    by_cases q : p
    · exact q
    · rw [az_b0 q] at h; exact absurd rfl h)) (fun h => H2 (fun q => by
    rw [az_b1 q] at h; exact h (by show ¬ (1 : Int) = 0; decide)))
/-- what is not null goes on -/
theorem bz_ifn {off : Int} {i len : Nat} (pc2 : Nat) (hf : am_find pc (am_c mt) = some (.ifnull off, len)) (hp : pc + 3 = pc2) (H : bz_R L xs tx d mt pc2 lv st e s N M Q) : bz_R L xs tx d mt pc lv (.inr (.inl i) :: st) e s N M Q :=
  bz_step (pc2 := pc2) (fun n => am_1s hf (by rw [← hp]; rfl)) H
theorem bz_swc {df lo hi : Int} {offs : Array Int} {x : Int} {len : Nat} (pc2 : Nat) (hf : am_find pc (am_c mt) = some (.tableswitch df lo hi offs, len)) (hx : az_in x) (hz : ¬ (x < lo ∨ hi < x)) {off : Int} (ho : offs[(x - lo).toNat]? = some off) (ht : 0 ≤ (pc : Int) + off ∧ am_tgt pc off = pc2) (H : bz_R L xs tx d mt pc2 lv st e s N M Q) : bz_R L xs tx d mt pc lv (.inl x :: st) e s N M Q := by
  refine bz_step (fun n => am_1s hf ?_) H
  simp only [am_simple, List.map_cons, az_e]
  rw [az_toInt hx, if_neg hz]
  simp only [ho]
  rw [if_pos ht.1, ht.2]
theorem bz_swd {df lo hi : Int} {offs : Array Int} {x : Int} {len : Nat} (pc2 : Nat) (hf : am_find pc (am_c mt) = some (.tableswitch df lo hi offs, len)) (hx : az_in x) (hz : x < lo ∨ hi < x) (ht : 0 ≤ (pc : Int) + df ∧ am_tgt pc df = pc2) (H : bz_R L xs tx d mt pc2 lv st e s N M Q) : bz_R L xs tx d mt pc lv (.inl x :: st) e s N M Q := by
  refine bz_step (fun n => am_1s hf ?_) H
  simp only [am_simple, List.map_cons, az_e]
  rw [az_toInt hx, if_pos hz, if_pos ht.1, ht.2]
/-- division and rest, of numbers that are not negative -/
theorem bz_dv {x y : Int} (hx : 0 ≤ x ∧ x < 2147483648) (hy : 0 < y ∧ y < 2147483648) : Int32.ofInt x / Int32.ofInt y = Int32.ofInt (x / y) ∧ Int32.ofInt x - Int32.ofInt x / Int32.ofInt y * Int32.ofInt y = Int32.ofInt (x % y) := by
  have h3 : 0 ≤ x / y := Int.ediv_nonneg hx.1 (by omega)
  have h4 : x / y ≤ x := Int.ediv_le_self y hx.1
  have e1 : Int32.ofInt x / Int32.ofInt y = Int32.ofInt (x / y) := by
    apply Int32.toInt.inj
    rw [Int32.toInt_div_of_ne_left _ _ (by
      intro h
      have h2 := congrArg Int32.toInt h
      rw [az_toInt ⟨by omega, by omega⟩] at h2
      have h5 : Int32.minValue.toInt = -2147483648 := by decide
      omega), az_toInt ⟨by omega, by omega⟩, az_toInt ⟨by omega, by omega⟩, az_toInt ⟨by omega, by omega⟩]
    exact Int.tdiv_eq_ediv_of_nonneg hx.1
  refine ⟨e1, ?_⟩
  rw [e1, ← Int32.ofInt_mul, ← Int32.ofInt_sub]
  congr 1
  have := Int.mul_ediv_add_emod x y
  rw [Int.mul_comm] at this
  omega
theorem bz_rem {x y : Int} {len : Nat} (pc2 : Nat) (hf : am_find pc (am_c mt) = some (.irem, len)) (hx : 0 ≤ x ∧ x < 2147483648) (hy : 0 < y ∧ y < 2147483648) (hp : pc + len = pc2) (H : bz_R L xs tx d mt pc2 lv (.inl (x % y) :: st) e s N M Q) : bz_R L xs tx d mt pc lv (.inl y :: .inl x :: st) e s N M Q := by
  refine bz_step (fun n => am_1s hf ?_) H
  simp only [am_simple, List.map_cons, az_e]
  rw [if_neg (fun h => by
    have h2 := congrArg Int32.toInt h
    rw [az_toInt ⟨by omega, by omega⟩] at h2
    have h5 : (0 : Int32).toInt = 0 := by decide
    omega), (bz_dv hx hy).2, hp]
theorem bz_div {x y : Int} {len : Nat} (pc2 : Nat) (hf : am_find pc (am_c mt) = some (.idiv, len)) (hx : 0 ≤ x ∧ x < 2147483648) (hy : 0 < y ∧ y < 2147483648) (hp : pc + len = pc2) (H : bz_R L xs tx d mt pc2 lv (.inl (x / y) :: st) e s N M Q) : bz_R L xs tx d mt pc lv (.inl y :: .inl x :: st) e s N M Q := by
  refine bz_step (fun n => am_1s hf ?_) H
  simp only [am_simple, List.map_cons, az_e]
  rw [if_neg (fun h => by
    have h2 := congrArg Int32.toInt h
    rw [az_toInt ⟨by omega, by omega⟩] at h2
    have h5 : (0 : Int32).toInt = 0 := by decide
    omega), (bz_dv hx hy).1, hp]
/-- rows: a read, a write, a length, a new one -/
theorem bz_ld {j n : Nat} {z : Int} {len : Nat} (pc2 : Nat) (hf : am_find pc (am_c mt) = some (.iaload, len)) (hk : e[j]? = some n) (hz : 0 ≤ z ∧ z < n) (hn : n < 2147483648 ∧ pc + len = pc2) (H : bz_R L xs tx d mt pc2 lv (.inl (s (34 + j) z.toNat) :: st) e s N M Q) : bz_R L xs tx d mt pc lv (.inl z :: .inr (.inl (34 + j)) :: st) e s N M Q := by
  refine bz_step (fun q => ?_) H
  rw [← hn.2]
  refine am_1h hf rfl ?_
  obtain ⟨e1, e2⟩ := az_idx ⟨hz.1, hz.2, hn.1⟩
  simp only [am_heap, List.map_cons, az_e, bz_at hk]
  rw [if_pos ⟨trivial, e2⟩, e1]
  rfl
theorem bz_st {j n : Nat} {x z : Int} {len : Nat} (pc2 : Nat) (hf : am_find pc (am_c mt) = some (.iastore, len)) (hk : e[j]? = some n) (hz : 0 ≤ z ∧ z < n) (hn : n < 2147483648 ∧ pc + len = pc2) (H : bz_R L xs tx d mt pc2 lv st e (am_up s (34 + j) z.toNat x) N M Q) : bz_R L xs tx d mt pc lv (.inl x :: .inl z :: .inr (.inl (34 + j)) :: st) e s N M Q := by
  refine bz_step (fun q => ?_) H
  rw [← hn.2]
  refine am_1h hf rfl ?_
  obtain ⟨e1, e2⟩ := az_idx ⟨hz.1, hz.2, hn.1⟩
  simp only [am_heap, List.map_cons, az_e, bz_at hk]
  rw [if_pos ⟨trivial, e2⟩, e1, az_G_up]
theorem bz_al {j n : Nat} {len : Nat} (pc2 : Nat) (hf : am_find pc (am_c mt) = some (.arraylength, len)) (hk : e[j]? = some n) (hp : pc + len = pc2) (H : bz_R L xs tx d mt pc2 lv (.inl ((n : Nat) : Int) :: st) e s N M Q) : bz_R L xs tx d mt pc lv (.inr (.inl (34 + j)) :: st) e s N M Q := by
  refine bz_step (fun q => ?_) H
  rw [← hp]
  refine am_1h hf rfl ?_
  simp only [am_heap, List.map_cons, az_e, bz_at hk]
  rw [if_pos trivial, Int32.ofInt_eq_ofNat]
theorem bz_new {n : Nat} {len : Nat} (pc2 N0 M0 : Nat) (hf : am_find pc (am_c mt) = some (.newarray .int, len)) (hn : n ≤ 60000000 ∧ pc + len = pc2) (hNM : N0 + 1 = N ∧ M0 + n = M) (H : bz_R L xs tx d mt pc2 lv (.inr (.inl (34 + e.length)) :: st) (e ++ [n]) (am_ur s (34 + e.length) (fun _ => 0)) N0 M0 Q) : bz_R L xs tx d mt pc lv (.inl ((n : Nat) : Int) :: st) e s N M Q := by
  obtain ⟨q, o, e2, t, c, k, h1, h2, h3, h4⟩ := H
  refine ⟨q + 1, o, e2, t, 1 + c, n + k, ?_, by omega, by omega, h4⟩
  conv => lhs; unfold am_run
  rw [hf]
  dsimp only
  have e0 : am_simple (.newarray .int) len pc (az_el lv) ((.inl ((n : Nat) : Int) :: st : List az_V).map az_e) = none := rfl
  have e1 : (Int32.ofInt ((n : Nat) : Int)).toNatClampNeg = n := by rw [Int32.toNatClampNeg_ofInt_of_le (by omega) (by omega)]; rfl
  have e2 : ¬ Int32.ofInt ((n : Nat) : Int) < 0 := by
    rw [Int32.lt_iff_toInt_lt, az_toInt ⟨by omega, by omega⟩]
    have h0 : (0 : Int32).toInt = 0 := by decide
    omega
  have e3 : am_heap L xs tx mt (.newarray .int) ((.inl ((n : Nat) : Int) :: st : List az_V).map az_e) (az_KE e, az_G s, bz_g, bz_d) false = some ((.inr (.inl (34 + e.length)) :: st : List az_V).map az_e, (az_KE (e ++ [n]), az_G (am_ur s (34 + e.length) (fun _ => 0)), bz_g, bz_d), false, 1, n) := by
    simp only [am_heap, List.map_cons, az_e]
    rw [if_pos ⟨e2, by rw [e1]; exact hn.1⟩, e1, bz_len]
    have e4 : az_KE e ++ [Sum.inl (0, n)] = az_KE (e ++ [n]) := by
      unfold az_KE
      rw [List.map_append, List.append_assoc]
      rfl
    rw [e4]
    have e5 : am_ur (az_G s) (34 + e.length) (fun _ => 0) = az_G (am_ur s (34 + e.length) (fun _ => 0)) := by
      funext a b
      unfold az_G am_ur
      split
      · rfl
      · rfl
    rw [e5]
  rw [e0]
  dsimp only
  rw [e3]
  dsimp only
  rw [hn.2, h1]
  rfl
/-- an int of the script, its length -/
theorem bz_xs {z : Int} {len : Nat} (pc2 : Nat) (hf : am_find pc (am_c mt) = some (.iaload, len)) (hz : 0 ≤ z ∧ z < L ∧ L < 2147483648) (hp : pc + len = pc2) (H : bz_R L xs tx d mt pc2 lv (.inl (xs z.toNat).toInt :: st) e s N M Q) : bz_R L xs tx d mt pc lv (.inl z :: .inr (.inr 0) :: st) e s N M Q := by
  refine bz_step (fun q => ?_) H
  rw [← hp]
  refine am_1h hf rfl ?_
  obtain ⟨e1, e2⟩ := az_idx (n := L) ⟨hz.1, hz.2.1, hz.2.2⟩
  simp only [am_heap, List.map_cons, az_e]
  rw [if_pos ⟨trivial, e2⟩, e1, Int32.ofInt_toInt]
theorem bz_xl {len : Nat} (pc2 : Nat) (hf : am_find pc (am_c mt) = some (.arraylength, len)) (hp : pc + len = pc2) (H : bz_R L xs tx d mt pc2 lv (.inl ((L : Nat) : Int) :: st) e s N M Q) : bz_R L xs tx d mt pc lv (.inr (.inr 0) :: st) e s N M Q := by
  refine bz_step (fun q => ?_) H
  rw [← hp]
  refine am_1h hf rfl ?_
  simp only [am_heap, List.map_cons, az_e]
  rw [if_pos trivial, Int32.ofInt_eq_ofNat]
theorem bz_min {ix : Nat} {x y : Int} {q : Nat × Nat} {len : Nat} (pc2 : Nat) (hf : am_find pc (am_c mt) = some (.invokestatic ix, len)) (hb : am_find ix (am_bT (am_own mt)) = some q) (hq : q.1 = 1 ∧ st.length ≤ 8 ∧ pc + len = pc2) (hx : az_in x) (hy : az_in y) (H : bz_R L xs tx d mt pc2 lv (.inl (if y < x then y else x) :: st) e s N M Q) : bz_R L xs tx d mt pc lv (.inl y :: .inl x :: st) e s N M Q := by
  refine bz_step (fun n => ?_) H
  rw [← hq.2.2]
  refine am_1h hf rfl ?_
  simp only [am_heap, hb, List.map_cons, az_e]
  rw [if_neg (by rw [hq.1]; decide), if_pos hq.1, if_pos (by rw [az_cs]; exact hq.2.1)]
  by_cases hlt : y < x
  · rw [if_pos ((az_lt hy hx).mpr hlt), if_pos hlt]
  · rw [if_neg (fun w => hlt ((az_lt hy hx).mp w)), if_neg hlt]
/-- a text's length and signs -/
theorem bz_tl {ix i : Nat} {q : Nat × Nat} {ty : String} {len : Nat} (pc2 : Nat) (hf : am_find pc (am_c mt) = some (.invokevirtual ix, len)) (hb : am_find ix (am_bT (am_own mt)) = some q) (hq : q.1 = 4 ∧ st.length ≤ 8 ∧ pc + len = pc2) (ht : tx i = some ty) (H : bz_R L xs tx d mt pc2 lv (.inl ty.length :: st) e s N M Q) : bz_R L xs tx d mt pc lv (.inr (.inr (i + 1)) :: st) e s N M Q := by
  refine bz_step (fun n => ?_) H
  rw [← hq.2.2]
  refine am_1h hf rfl ?_
  simp only [am_heap, hb, List.map_cons, az_e]
  rw [if_pos hq.1]
  simp only [ht]
  rw [if_pos (by rw [az_cs]; exact hq.2.1), Int32.ofInt_eq_ofNat]
theorem bz_tc {ix i : Nat} {q : Nat × Nat} {ty : String} {ch : Char} {z : Int} {len : Nat} (pc2 : Nat) (hf : am_find pc (am_c mt) = some (.invokevirtual ix, len)) (hb : am_find ix (am_bT (am_own mt)) = some q) (hq : q.1 = 5 ∧ st.length ≤ 8 ∧ pc + len = pc2) (ht : tx i = some ty) (hz : 0 ≤ z ∧ z < ty.length ∧ ty.length < 2147483648) (hch : ty.toList[z.toNat]? = some ch) (H : bz_R L xs tx d mt pc2 lv (.inl ch.toNat :: st) e s N M Q) : bz_R L xs tx d mt pc lv (.inl z :: .inr (.inr (i + 1)) :: st) e s N M Q := by
  refine bz_step (fun n => ?_) H
  rw [← hq.2.2]
  refine am_1h hf rfl ?_
  obtain ⟨e1, e2⟩ := az_idx hz
  simp only [am_heap, hb, List.map_cons, az_e]
  rw [if_neg (by rw [hq.1]; decide), if_pos hq.1]
  simp only [ht, e1, hch]
  rw [if_pos ⟨by rw [az_cs]; exact hq.2.1, e2⟩, Int32.ofInt_eq_ofNat]
theorem bz_1c {n : Nat} {m2 : am_M1} {lw : am_L} {sw as rest : List Value} {h h2 : am_H} {ins : Instr} {len c k : Nat} {v : Option Value} (hf : am_find pc (am_c mt) = some (ins, len)) (h1 : am_simple ins len pc lw sw = none) (hh : am_heap L xs tx mt ins sw h false = none) (hc : am_call mt ins sw h = some (m2, as, rest)) (hr : am_run L xs n tx d m2 0 (am_ini (am_mL m2) as) [] h false = some (.inl v, h2, false, c, k)) : am_run L xs (n + 1) tx (d + 1) mt pc lw sw h false = (am_run L xs n tx (d + 1) mt (pc + len) lw (v.toList ++ rest) h2 false).map (am_add c k) := by
  conv => lhs; unfold am_run
  rw [hf]
  dsimp only
  rw [h1]
  dsimp only
  rw [hh]
  dsimp only
  rw [hc]
  dsimp only
  rw [hr]
theorem bz_1t {n : Nat} {m2 : am_M1} {lw lw2 : am_L} {sw as rest : List Value} {h h2 : am_H} {ins : Instr} {len E hp pc2 c k : Nat} (hf : am_find pc (am_c mt) = some (ins, len)) (h1 : am_simple ins len pc lw sw = none) (hh : am_heap L xs tx mt ins sw h false = none) (hc : am_call mt ins sw h = some (m2, as, rest)) (hr : am_run L xs n tx d m2 0 (am_ini (am_mL m2) as) [] h false = some (.inr E, h2, false, c, k)) (ha : am_hand (am_own mt) pc E (am_hh mt) = some (some hp)) (hg : am_caught mt hp lw = some (pc2, lw2)) : am_run L xs (n + 1) tx (d + 1) mt pc lw sw h false = (am_run L xs n tx (d + 1) mt pc2 lw2 [] h2 false).map (am_add c k) := by
  conv => lhs; unfold am_run
  rw [hf]
  dsimp only
  rw [h1]
  dsimp only
  rw [hh]
  dsimp only
  rw [hc]
  dsimp only
  rw [hr]
  dsimp only
  rw [ha]
  dsimp only
  rw [hg]
/-- a call of a method of the class, which may throw what is caught here -/
theorem bz_c {ins : Instr} {len : Nat} {m2 : am_M1} {as rest : List az_V} {Q2 : az_O → az_S → Prop} (htx : ∀ i t, am_sx[i]? = some t → tx i = some t) (pc2 : Nat) (hf : am_find pc (am_c mt) = some (ins, len)) (hc : az_call mt ins st = some (m2, as, rest)) (hp : pc + len = pc2) (hd : 0 < d) (H : az_R (d - 1) m2 0 (az_ini (am_mL m2) as) [] s Q2)
    (H1 : ∀ v t, Q2 (.inl v) t → bz_R L xs tx d mt pc2 lv (v.toList ++ rest) e t N M Q)
    (H2 : ∀ E t, Q2 (.inr E) t → ∃ hp pc3 lv2 N0 M0, N0 + 1 = N ∧ M0 + 6 = M ∧ am_hand (am_own mt) pc E (am_hh mt) = some (some hp) ∧ am_caught mt hp (az_el lv) = some (pc3, az_el lv2) ∧ bz_R L xs tx d mt pc3 lv2 [] e t N0 M0 Q) : bz_R L xs tx d mt pc lv st e s N M Q := by
  obtain ⟨d, rfl⟩ : ∃ e, d = e + 1 := ⟨d - 1, by omega⟩
  rw [Nat.add_sub_cancel] at H
  obtain ⟨n1, o, t, h1, h2⟩ := H L xs tx htx e bz_g bz_d
  obtain ⟨c1, c2, c3⟩ := az_call_ok (s := s) hc len pc L xs tx e bz_g bz_d (az_el lv)
  rw [az_ini_ok] at h1
  cases o with
  | inl v =>
    obtain ⟨n2, o2, e2, t2, c, k, h3, h4, h5, h6⟩ := H1 v t h2
    refine ⟨max n1 n2 + 1, o2, e2, t2, c, k, ?_, h4, h5, h6⟩
    have h1' := am_mono n1 (max n1 n2) _ _ _ _ _ _ _ _ _ _ (Nat.le_max_left _ _) (Nat.le_refl _) h1
    have h3' := am_mono n2 (max n1 n2) _ _ _ _ _ _ _ _ _ _ (Nat.le_max_right _ _) (Nat.le_refl _) h3
    rw [am_1c hf c1 c2 c3 h1', hp, ← h3']
    congr 1
    cases v <;> rfl
  | inr E =>
    obtain ⟨hp2, pc3, lv2, N0, M0, z1, z2, e1, e2, n2, o2, e3, t2, c, k, h3, h4, h5, h6⟩ := H2 E t h2
    refine ⟨max n1 n2 + 1, o2, e3, t2, 1 + c, 6 + k, ?_, by omega, by omega, h6⟩
    have h1' := am_mono n1 (max n1 n2) _ _ _ _ _ _ _ _ _ _ (Nat.le_max_left _ _) (Nat.le_refl _) h1
    have h3' := am_mono n2 (max n1 n2) _ _ _ _ _ _ _ _ _ _ (Nat.le_max_right _ _) (Nat.le_refl _) h3
    rw [bz_1t hf c1 c2 c3 h1' e1 e2]
    rw [show ([] : List Value) = ([] : List az_V).map az_e from rfl, h3']
    rfl
/-- a call of a method of the class that throws nothing -/
theorem bz_cq {ins : Instr} {len : Nat} {m2 : am_M1} {as rest : List az_V} {Q2 : az_O → az_S → Prop} (htx : ∀ i t, am_sx[i]? = some t → tx i = some t) (pc2 : Nat) (hf : am_find pc (am_c mt) = some (ins, len)) (hc : az_call mt ins st = some (m2, as, rest)) (hp : pc + len = pc2) (hd : 0 < d) (H : az_R (d - 1) m2 0 (az_ini (am_mL m2) as) [] s Q2)
    (H1 : ∀ v t, Q2 (.inl v) t → bz_R L xs tx d mt pc2 lv (v.toList ++ rest) e t N M Q) (H2 : ∀ E t, ¬ Q2 (.inr E) t) : bz_R L xs tx d mt pc lv st e s N M Q :=
  bz_c htx pc2 hf hc hp hd H H1 (fun E t h => absurd h (H2 E t))
theorem bz_call_ok {ins : Instr} {m2 : am_M1} {as rest : List az_V} (h : az_call mt ins st = some (m2, as, rest)) (len pc : Nat) (lw : am_L) :
    am_simple ins len pc lw (st.map az_e) = none ∧ am_heap L xs tx mt ins (st.map az_e) (az_KE e, az_G s, bz_g, bz_d) false = none ∧ am_call mt ins (st.map az_e) (az_KE e, az_G s, bz_g, bz_d) = some (m2, as.map az_e, rest.map az_e) := az_call_ok h len pc L xs tx e bz_g bz_d lw
/-- a call of a method of the law, which throws nothing -/
theorem bz_w {ins : Instr} {len N1 N2 M1 M2 : Nat} {m2 : am_M1} {as rest : List az_V} {Q2 : az_O → List Nat → az_S → Prop} (pc2 : Nat) (hf : am_find pc (am_c mt) = some (ins, len)) (hc : az_call mt ins st = some (m2, as, rest)) (hp : pc + len = pc2) (hN : N1 + N2 = N ∧ M1 + M2 = M) (hd : 0 < d) (H : bz_R L xs tx (d - 1) m2 0 (az_ini (am_mL m2) as) [] e s N1 M1 Q2)
    (H1 : ∀ v e2 t, Q2 (.inl v) e2 t → bz_R L xs tx d mt pc2 lv (v.toList ++ rest) e2 t N2 M2 Q) (H2 : ∀ E e2 t, ¬ Q2 (.inr E) e2 t) : bz_R L xs tx d mt pc lv st e s N M Q := by
  obtain ⟨d, rfl⟩ : ∃ e, d = e + 1 := ⟨d - 1, by omega⟩
  rw [Nat.add_sub_cancel] at H
  obtain ⟨n1, o, e2, t, c1, k1, h1, h2, h3, h4⟩ := H
  obtain ⟨y1, y2, y3⟩ := bz_call_ok (L := L) (xs := xs) (tx := tx) (e := e) (s := s) hc len pc (az_el lv)
  rw [az_ini_ok] at h1
  cases o with
  | inl v =>
    obtain ⟨n2, o2, e3, t2, c, k, h5, h6, h7, h8⟩ := H1 v e2 t h4
    refine ⟨max n1 n2 + 1, o2, e3, t2, c1 + c, k1 + k, ?_, by omega, by omega, h8⟩
    have h1' := am_mono n1 (max n1 n2) _ _ _ _ _ _ _ _ _ _ (Nat.le_max_left _ _) (Nat.le_refl _) h1
    have h3' := am_mono n2 (max n1 n2) _ _ _ _ _ _ _ _ _ _ (Nat.le_max_right _ _) (Nat.le_refl _) h5
    rw [bz_1c hf y1 y2 y3 h1', hp]
    have e9 : (v.map az_e).toList ++ rest.map az_e = (v.toList ++ rest).map az_e := by cases v <;> rfl
    rw [e9, h3']
    rfl
  | inr E => exact absurd h4 (H2 E e2 t)
/-- the place in acts where a text is put together -/
theorem bz_mac {i : Nat} {a b c : Int} {len ix N0 M0 : Nat} {Q2 : az_O → List Nat → az_S → Prop} (hf : am_find 283 (am_c mt) = some (.new ix, len)) (hx : am_find ix (am_nT (am_own mt)) = none ∧ am_find ix (am_xT (am_own mt)) = none) (hm : (am_own mt = 11 ∧ am_b mt = am_b am_m_L_acts ∧ am_mL mt = 6 ∧ am_rt mt = some .int)) (h3 : az_ld lv 3 = some (.inl a)) (h4 : az_ld lv 4 = some (.inl b)) (h5 : az_ld lv 5 = some (.inl c)) (ha : 0 ≤ a ∧ a < 7) (hb : 0 ≤ b ∧ b < 9) (hc : 0 ≤ c ∧ c < 11) (hd : 12 < d) (hN : N0 + 24 = N ∧ M0 + 4000 = M)
    (H : bz_R L xs (am_txu tx (am_text a.toNat b.toNat c.toNat)) (d - 1) am_m_L_does 0 (az_ini (am_mL am_m_L_does) [az_r i, az_x 1000]) [] e s N0 M0 Q2) (H1 : ∀ o e2 t, Q2 o e2 t → (∃ v, o = .inl (some (az_i v))) ∧ Q o e2 t) : bz_R L xs tx d mt 283 lv [az_r i] e s N M Q := by
  obtain ⟨d, rfl⟩ : ∃ e, d = e + 1 := ⟨d - 1, by omega⟩
  rw [Nat.add_sub_cancel] at H
  obtain ⟨n1, o, e2, t, c1, k1, h1, h2, h6, h7⟩ := H
  obtain ⟨⟨v, rfl⟩, h8⟩ := H1 _ _ _ h7
  refine ⟨n1 + 1, .inl (some (az_i v)), e2, t, c1 + 24, k1 + 4000, ?_, by omega, by omega, h8⟩
  have ea := az_idx (n := 7) ⟨ha.1, ha.2, by decide⟩
  have eb := az_idx (n := 9) ⟨hb.1, hb.2, by decide⟩
  have ec := az_idx (n := 11) ⟨hc.1, hc.2, by decide⟩
  conv => lhs; unfold am_run
  rw [hf]
  dsimp only
  have e1 : am_simple (.new ix) len 283 (az_el lv) (List.map az_e [az_r i]) = none := rfl
  have e2' : am_heap L xs tx mt (.new ix) (List.map az_e [az_r i]) (az_KE e, az_G s, bz_g, bz_d) false = none := by simp only [am_heap, hx.1]
  have e3 : am_call mt (.new ix) (List.map az_e [az_r i]) (az_KE e, az_G s, bz_g, bz_d) = none := rfl
  have e4 : am_ret (am_rt mt) (.new ix) (List.map az_e [az_r i]) = none := rfl
  have e5 : am_thr mt (.new ix) 283 (List.map az_e [az_r i]) = none := by simp only [am_thr, hx.2]
  have e6 : am_mac mt 283 (az_el lv) (List.map az_e [az_r i]) = some (i, Int32.ofInt a, Int32.ofInt b, Int32.ofInt c) := by
    unfold am_mac
    rw [if_pos ⟨hm, rfl⟩]
    simp only [List.map_cons, List.map_nil, az_e, az_ld_ok, h3, h4, h5, Option.map_some]
    rw [if_pos ⟨ea.2, eb.2, ec.2⟩]
  rw [e1]
  dsimp only
  rw [e2']
  dsimp only
  rw [e3]
  dsimp only
  rw [e4]
  dsimp only
  rw [e5]
  dsimp only
  rw [e6]
  dsimp only
  rw [if_neg (by omega), ea.1, eb.1, ec.1]
  rw [az_ini_ok] at h1
  have h1' : am_run L xs n1 (am_txu tx (am_text a.toNat b.toNat c.toNat)) d am_m_L_does 0 (am_ini (am_mL am_m_L_does) [.ref i, .retAddr 1000]) [] (az_KE e, az_G s, bz_g, bz_d) false = some (.inl (some (.int (Int32.ofInt v))), (az_KE e2, az_G t, bz_g, bz_d), false, c1, k1) := h1
  rw [h1']
  rfl
theorem bz_end {ins : Instr} {len : Nat} {v : Option az_V} (hf : am_find pc (am_c mt) = some (ins, len)) (h1 : ∀ L2 S2, am_simple ins len pc L2 S2 = none) (hh : am_heap L xs tx mt ins (st.map az_e) (az_KE e, az_G s, bz_g, bz_d) false = none) (hc : ∀ S2 h2, am_call mt ins S2 h2 = none) (hr : am_ret (am_rt mt) ins (st.map az_e) = some (v.map az_e)) (hQ : Q (.inl v) e s) : bz_R L xs tx d mt pc lv st e s N M Q := by
  refine ⟨1, .inl v, e, s, 0, 0, ?_, Nat.zero_le _, Nat.zero_le _, hQ⟩
  unfold am_run
  rw [hf]
  dsimp only
  rw [h1]
  dsimp only
  rw [hh]
  dsimp only
  rw [hc]
  dsimp only
  rw [hr]
  rfl
theorem bz_retI {x : Int} {len : Nat} (hf : am_find pc (am_c mt) = some (.ireturn, len)) (hr : am_rt mt = some .int) (hQ : Q (.inl (some (.inl x))) e s) : bz_R L xs tx d mt pc lv [.inl x] e s N M Q :=
  bz_end (v := some (.inl x)) hf (fun _ _ => rfl) rfl (fun _ _ => rfl) (by
    rw [hr]
    show (if narrow .int (.int (Int32.ofInt x)) = .int (Int32.ofInt x) then _ else _) = _
    rw [if_pos (show narrow .int (.int (Int32.ofInt x)) = .int (Int32.ofInt x) from rfl)]
    rfl) hQ
theorem bz_retB {x : Int} {len : Nat} (hf : am_find pc (am_c mt) = some (.ireturn, len)) (hr : am_rt mt = some .boolean) (hx : x = 0 ∨ x = 1) (hQ : Q (.inl (some (.inl x))) e s) : bz_R L xs tx d mt pc lv [.inl x] e s N M Q :=
  bz_end (v := some (.inl x)) hf (fun _ _ => rfl) rfl (fun _ _ => rfl) (by
    rw [hr]
    rcases hx with rfl | rfl <;> rfl) hQ
theorem bz_retA {i : Nat} {ty : FieldType} {len : Nat} (hf : am_find pc (am_c mt) = some (.areturn, len)) (hr : am_rt mt = some ty) (ht : (∃ n, ty = .object n) ∨ ∃ n, ty = .array n) (hQ : Q (.inl (some (.inr (.inl i)))) e s) : bz_R L xs tx d mt pc lv [.inr (.inl i)] e s N M Q :=
  bz_end (v := some (.inr (.inl i))) hf (fun _ _ => rfl) rfl (fun _ _ => rfl) (by
    rw [hr]
    rcases ht with ⟨n, rfl⟩ | ⟨n, rfl⟩ <;> rfl) hQ
end BZR
