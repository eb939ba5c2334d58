/-! MEAN TOLL, COUNTED SHARE, 1: doubles and floats that can come; rules -/
def zfd (x : UInt64) : Bool := decide (x &&& 0x7fffffffffffffff ≤ 0x7ff0000000000000) && decide (Op.cmpValue (FP.dcmp x x) .l = 0)
def zff (x : UInt32) : Bool := decide (x &&& 0x7fffffff ≤ 0x7f800000) && zfd (FP.f2d x)
theorem zfp_d : ∀ a, a < 91 → ∀ b, b < 10 → zfd (FP.ddiv (FP.i2d (Int32.ofInt ((a : Nat) : Int))) (FP.i2d (Int32.ofInt ((b + 1 : Nat) : Int)))) = true := by decide +kernel
theorem zfp_f : ∀ a, a < 11 → ∀ b, b < 10 → zff (FP.fdiv (FP.i2f (Int32.ofInt ((a : Nat) : Int))) (FP.i2f (Int32.ofInt ((b + 1 : Nat) : Int)))) = true := by decide +kernel
/-- the mean toll, the share of bridges that are counted -/
def zmd (S : zR) : UInt64 := FP.ddiv (FP.i2d (Int32.ofInt (ztl S True))) (FP.i2d (Int32.ofInt ((zn S 0 : Nat) : Int)))
def zmf (S : zR) : UInt32 := FP.fdiv (FP.i2f (Int32.ofInt (zcc S))) (FP.i2f (Int32.ofInt ((zn S 0 : Nat) : Int)))
theorem zmd_ok {S : zR} {h : Nat} (hI : zInv S h) (hn : zn S 0 ≠ 0) : zmd S &&& 0x7fffffffffffffff ≤ 0x7ff0000000000000 ∧ Op.cmpValue (FP.dcmp (zmd S) (zmd S)) .l = 0 := by
  have h1 := zn_le hI
  have h2 : 0 ≤ ztl S True ∧ ztl S True ≤ 90 := by
    have := zs_le (n := zn S 0) (f := fun b => if True ∨ ¬ S 3 < zB S b 4 then zB S b 3 else 0) (a := 0) (b := 9) (fun b hb => by
      have := hI.2.1 b hb
      unfold zIb at this
      split <;> omega)
    unfold ztl
    omega
  have := zfp_d (ztl S True).toNat (by omega) (zn S 0 - 1) (by omega)
  rw [show (((ztl S True).toNat : Nat) : Int) = ztl S True from by omega, show zn S 0 - 1 + 1 = zn S 0 from by omega] at this
  unfold zfd at this
  rw [Bool.and_eq_true, decide_eq_true_iff, decide_eq_true_iff] at this
  exact this
theorem zmf_ok {S : zR} {h : Nat} (hI : zInv S h) (hn : zn S 0 ≠ 0) : zmf S &&& 0x7fffffff ≤ 0x7f800000 ∧ FP.f2d (zmf S) &&& 0x7fffffffffffffff ≤ 0x7ff0000000000000 ∧ Op.cmpValue (FP.dcmp (FP.f2d (zmf S)) (FP.f2d (zmf S))) .l = 0 := by
  have h1 := zn_le hI
  have h2 : 0 ≤ zcc S ∧ zcc S ≤ 10 := by
    have := zs_le (n := zn S 0) (f := fun b => az_b (0 ≤ zat S b)) (a := 0) (b := 1) (fun b hb => by
      unfold az_b
      split <;> omega)
    unfold zcc
    omega
  have := zfp_f (zcc S).toNat (by omega) (zn S 0 - 1) (by omega)
  rw [show (((zcc S).toNat : Nat) : Int) = zcc S from by omega, show zn S 0 - 1 + 1 = zn S 0 from by omega] at this
  unfold zff zfd at this
  rw [Bool.and_eq_true, Bool.and_eq_true, decide_eq_true_iff, decide_eq_true_iff, decide_eq_true_iff] at this
  exact ⟨this.1, this.2.1, this.2.2⟩
section AWX
variable {L : Nat} {xs : Nat → Int32} {d : Nat} {mt : am_M1} {pc : Nat} {lv : am_L} {s : az_S} {gl : Nat → Nat → Int64} {gd : Nat → Nat → UInt64} {N : Nat} {Q : Option Value ⊕ Nat → az_S → (Nat → Nat → Int64) → (Nat → Nat → UInt64) → Prop}
/-- thrown -/
theorem aw_t {st : List Value} {ins : Instr} {len E : Nat} (hf : am_find pc (am_c mt) = some (ins, len)) (h1 : am_simple ins len pc lv st = none) (hh : am_heap L xs mt ins st (az_K, az_G s, gl, gd) false = none) (hc : am_call mt ins st (az_K, az_G s, gl, gd) = none) (hr : am_ret (am_rt mt) ins st = none) (ht : am_thr mt ins pc st = some E) (hN : 1 ≤ N) (hQ : Q (.inr E) s gl gd) : aw_R L xs d mt pc lv st s gl gd N Q := by
  refine ⟨1, .inr E, s, gl, gd, 1, ?_, hN, hQ⟩
  conv => lhs; unfold am_run
  rw [hf]
  dsimp only
  rw [h1]
  dsimp only
  rw [hh]
  dsimp only
  rw [hc]
  dsimp only
  rw [hr]
  dsimp only
  rw [ht]
/-- a call of a method of this machine, which may throw what is caught here -/
theorem aw_y {st as rest : List az_V} {ins : Instr} {len N1 N2 : Nat} {m2 : am_M1} {Q2 : Option Value ⊕ Nat → az_S → (Nat → Nat → Int64) → (Nat → Nat → UInt64) → Prop} (pc2 : Nat) (hf : am_find pc (am_c mt) = some (ins, len)) (hc : az_call mt ins st = some (m2, as, rest)) (hp : pc + len = pc2) (hN : N1 + N2 = N) (H : aw_R L xs d m2 0 (am_ini (am_mL m2) (as.map az_e)) [] s gl gd N1 Q2)
    (H1 : ∀ v t gl2 gd2, Q2 (.inl v) t gl2 gd2 → aw_R L xs (d + 1) mt pc2 lv (v.toList ++ rest.map az_e) t gl2 gd2 N2 Q) (H2 : ∀ E t gl2 gd2, Q2 (.inr E) t gl2 gd2 → ∃ hp pc3 lv2, am_hand (am_own mt) pc E (am_hh mt) = some (some hp) ∧ am_caught mt hp lv = some (pc3, lv2) ∧ aw_R L xs (d + 1) mt pc3 lv2 [] t gl2 gd2 N2 Q) : aw_R L xs (d + 1) mt pc lv (st.map az_e) s gl gd N Q := by
  obtain ⟨n1, o, t, gl2, gd2, k, h1, hk, h2⟩ := H
  obtain ⟨c1, c2, c3⟩ := az_call_ok (s := s) hc len pc L xs gl gd lv
  cases o with
  | inl v =>
    obtain ⟨n2, o2, t2, gl3, gd3, c, h3, h4, h5⟩ := H1 v t gl2 gd2 h2
    refine ⟨max n1 n2 + 1, o2, t2, gl3, gd3, k + c, ?_, by omega, h5⟩
    have h1' := am_mono n1 (max n1 n2) _ _ _ _ _ _ _ _ _ (Nat.le_max_left _ _) (Nat.le_refl _) h1
    have h3' := am_mono n2 (max n1 n2) _ _ _ _ _ _ _ _ _ (Nat.le_max_right _ _) (Nat.le_refl _) h3
    rw [aw_1c hf c1 c2 c3 h1', hp, h3']
    show some (am_add k (6 * k) _) = _
    unfold am_add
    dsimp only
    rw [show 6 * k + 6 * c = 6 * (k + c) from by omega]
  | inr E =>
    obtain ⟨hp2, pc3, lv2, e1, e2, n2, o2, t2, gl3, gd3, c, h3, h4, h5⟩ := H2 E t gl2 gd2 h2
    refine ⟨max n1 n2 + 1, o2, t2, gl3, gd3, k + c, ?_, by omega, h5⟩
    have h1' := am_mono n1 (max n1 n2) _ _ _ _ _ _ _ _ _ (Nat.le_max_left _ _) (Nat.le_refl _) h1
    have h3' := am_mono n2 (max n1 n2) _ _ _ _ _ _ _ _ _ (Nat.le_max_right _ _) (Nat.le_refl _) h3
    rw [aw_1t hf c1 c2 c3 h1' e1 e2, h3']
    show some (am_add k (6 * k) _) = _
    unfold am_add
    dsimp only
    rw [show 6 * k + 6 * c = 6 * (k + c) from by omega]
/-- not zero: the branch is taken; zero: it isn't -/
theorem aw_n1 {z : Int} {p p2 : Nat} {off : Int} {st : List Value} (hz : az_in z ∧ ¬ z = 0) (h : ((p : Nat) : Int) + off = ((p2 : Nat) : Int)) : am_simple (.ifCond .ne off) 3 p lv (.int (Int32.ofInt z) :: st) = some (p2, lv, st) := by
  show am_br (am_cond .ne (Int32.ofInt z) 0) p off lv st = _
  unfold am_br
  have e : am_cond .ne (Int32.ofInt z) 0 = true := by
    show decide (¬ Int32.ofInt z = Int32.ofInt 0) = true
    rw [decide_eq_true_iff, az_eq hz.1 ⟨by decide, by decide⟩]
    exact hz.2
  rw [if_pos (by omega), e, if_pos rfl, show am_tgt p off = p2 from by unfold am_tgt; omega]
theorem aw_n0 {p : Nat} {off : Int} {st : List Value} (h : 0 ≤ ((p : Nat) : Int) + off) : am_simple (.ifCond .ne off) 3 p lv (.int (Int32.ofInt 0) :: st) = some (p + 3, lv, st) := by
  show am_br (am_cond .ne (Int32.ofInt 0) 0) p off lv st = _
  unfold am_br
  rw [if_pos h]
  rfl
theorem aw_e0 {p p2 : Nat} {off : Int} {st : List Value} (h : ((p : Nat) : Int) + off = ((p2 : Nat) : Int)) : am_simple (.ifCond .eq off) 3 p lv (.int 0 :: st) = some (p2, lv, st) := by
  show am_br (am_cond .eq 0 0) p off lv st = _
  unfold am_br
  rw [if_pos (by omega), show am_cond .eq 0 0 = true from rfl, if_pos rfl, show am_tgt p off = p2 from by unfold am_tgt; omega]
end AWX
