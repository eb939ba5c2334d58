def am_find {α : Type} (k : Nat) : List (Nat × α) → Option α
  | [] => none
  | q :: l => if q.1 = k then some q.2 else am_find k l
theorem am_find_mem {α : Type} {k : Nat} {v : α} : ∀ {l : List (Nat × α)}, am_find k l = some v → (k, v) ∈ l
  | [], h => by simp [am_find] at h
  | (a, b) :: l, h => by
    unfold am_find at h
    by_cases hq : a = k
    · simp only [hq, if_pos] at h
      cases h
      subst hq
      exact List.mem_cons_self
    · simp only [hq, if_false] at h
      exact List.mem_cons_of_mem _ (am_find_mem h)
/-! private members of nest mates: what their numbers mean; written by program -/
def am_fN : Nat → List (Nat × Nat × Nat) := fun o => match o with
  | 4 => [(26, 6, 0), (22, 6, 2), (25, 6, 3)]
  | 9 => [(290, 6, 0), (398, 6, 1)]
  | _ => []
/-- number, kind (3 static, 4 constructor), callee, places of: static or instance, initialized, code -/
def am_iN : Nat → List (Nat × Nat × am_M1 × Nat × Nat × Nat) := fun o => match o with
  | 0 => [(30, 3, am_m_X9_isWithin, 175, 8, 176), (11, 4, am_m_X6_init, 74, 71, 75), (22, 3, am_m_X9_isLand, 172, 8, 173)]
  | 8 => [(73, 3, am_m_X9_isWithin, 175, 8, 176)]
  | 9 => [(9, 4, am_m_X8_init, 50, 17, 51), (34, 4, am_m_X2_init, 93, 29, 94), (73, 4, am_m_X4_init, 123, 47, 124)]
  | _ => []
/-- the words of nest mates -/
def am_nwF (o : Nat) (q : Nat × Nat × Nat) : Cond := .fieldLinkNest (am_cn o) q.1 (am_cn q.2.1) (am_TX q.2.1 q.2.2).2.1 (am_TX q.2.1 q.2.2).2.2.1 RX9
def am_nwM (o : Nat) (q : Nat × Nat × am_M1 × Nat × Nat × Nat) : Cond := .methodLinkNest (am_cn o) q.1 (am_y q.2.2.1) RX9
theorem am_fN_ok : ∀ o, o < 12 → ∀ q ∈ am_fN o, q.2.2 < am_N q.2.1 ∧ q.2.1 < 11 ∧ (am_TX q.2.1 q.2.2).1 = am_cn q.2.1 ∧ am_nwF o q ∈ tables_1 := by decide +kernel
theorem am_iT_kd : ∀ o, o < 12 → ∀ q ∈ am_iT o, q.2.1 ≤ 2 := by decide +kernel
def am_ioN (q : Nat × Nat × am_M1 × Nat × Nat × Nat) : Bool := match q with
  | (_, kd, m2, p2, p4, p5) => decide (am_at p4 = some (.initialized (am_cn (am_own m2)))) && decide (am_at p5 = some (am_cw m2)) && decide ((am_y m2).cls = am_cn (am_own m2)) && decide ((parseMethodDescriptor (am_y m2).desc).map (fun d => d.parameters.length) = some (am_np m2)) && plainName (am_y m2).cls && decide ((am_y m2).cls ≠ "java/lang/invoke/MethodHandle") && decide ((am_y m2).cls ≠ "java/lang/invoke/VarHandle") && decide (am_mL m2 ≤ 21) && decide (am_own m2 < 12) && decide (am_np m2 + 1 ≤ am_mL m2 ∨ kd = 3) && decide (am_np m2 ≤ am_mL m2) && decide (am_wt m2 = false) && decide (am_hh m2 = []) && decide (kd = 3 ∨ kd = 4) && (decide (¬ kd = 3) || decide (am_at p2 = some (.static (am_y m2)))) && (decide (¬ kd = 4) || (decide (am_at p2 = some (.instanceMethod (am_y m2))) && decide ((am_y m2).name = "<init>") && decide (am_rt m2 = none)))
theorem am_ioN0 : am_ioN (30, 3, am_m_X9_isWithin, 175, 8, 176) = true ∧ am_nwM 0 (30, 3, am_m_X9_isWithin, 175, 8, 176) ∈ tables_1 := by decide +kernel
theorem am_ioN1 : am_ioN (11, 4, am_m_X6_init, 74, 71, 75) = true ∧ am_nwM 0 (11, 4, am_m_X6_init, 74, 71, 75) ∈ tables_1 := by decide +kernel
theorem am_ioN2 : am_ioN (22, 3, am_m_X9_isLand, 172, 8, 173) = true ∧ am_nwM 0 (22, 3, am_m_X9_isLand, 172, 8, 173) ∈ tables_1 := by decide +kernel
theorem am_ioN3 : am_ioN (73, 3, am_m_X9_isWithin, 175, 8, 176) = true ∧ am_nwM 8 (73, 3, am_m_X9_isWithin, 175, 8, 176) ∈ tables_1 := by decide +kernel
theorem am_ioN4 : am_ioN (9, 4, am_m_X8_init, 50, 17, 51) = true ∧ am_nwM 9 (9, 4, am_m_X8_init, 50, 17, 51) ∈ tables_1 := by decide +kernel
theorem am_ioN5 : am_ioN (34, 4, am_m_X2_init, 93, 29, 94) = true ∧ am_nwM 9 (34, 4, am_m_X2_init, 93, 29, 94) ∈ tables_1 := by decide +kernel
theorem am_ioN6 : am_ioN (73, 4, am_m_X4_init, 123, 47, 124) = true ∧ am_nwM 9 (73, 4, am_m_X4_init, 123, 47, 124) ∈ tables_1 := by decide +kernel
theorem am_iN_ok : ∀ o, ∀ q ∈ am_iN o, (am_ioN q = true ∧ am_nwM o q ∈ tables_1) ∧ am_dec q.2.2.1 := by
  intro o q h
  match o, h with
  | 0, h => exact (List.forall_mem_cons.mpr ⟨⟨am_ioN0, am_d_X9_isWithin⟩, List.forall_mem_cons.mpr ⟨⟨am_ioN1, am_d_X6_init⟩, List.forall_mem_cons.mpr ⟨⟨am_ioN2, am_d_X9_isLand⟩, (fun _ h => absurd h List.not_mem_nil)⟩⟩⟩ : ∀ q ∈ am_iN 0, (am_ioN q = true ∧ am_nwM 0 q ∈ tables_1) ∧ am_dec q.2.2.1) q h
  | 1, h => exact absurd h List.not_mem_nil
  | 2, h => exact absurd h List.not_mem_nil
  | 3, h => exact absurd h List.not_mem_nil
  | 4, h => exact absurd h List.not_mem_nil
  | 5, h => exact absurd h List.not_mem_nil
  | 6, h => exact absurd h List.not_mem_nil
  | 7, h => exact absurd h List.not_mem_nil
  | 8, h => exact (List.forall_mem_cons.mpr ⟨⟨am_ioN3, am_d_X9_isWithin⟩, (fun _ h => absurd h List.not_mem_nil)⟩ : ∀ q ∈ am_iN 8, (am_ioN q = true ∧ am_nwM 8 q ∈ tables_1) ∧ am_dec q.2.2.1) q h
  | 9, h => exact (List.forall_mem_cons.mpr ⟨⟨am_ioN4, am_d_X8_init⟩, List.forall_mem_cons.mpr ⟨⟨am_ioN5, am_d_X2_init⟩, List.forall_mem_cons.mpr ⟨⟨am_ioN6, am_d_X4_init⟩, (fun _ h => absurd h List.not_mem_nil)⟩⟩⟩ : ∀ q ∈ am_iN 9, (am_ioN q = true ∧ am_nwM 9 q ∈ tables_1) ∧ am_dec q.2.2.1) q h
  | k + 10, h => exact absurd h List.not_mem_nil
/-- a field, of the class itself or of a nest mate: class, place -/
def am_fld (o ix : Nat) : Option (Nat × Nat) := match am_find ix (am_fT o) with
  | some q => some (q.1, q.2.1)
  | none => am_find ix (am_fN o)
/-- a call: kind, callee -/
def am_inv (o ix : Nat) : Option (Nat × am_M1) := match am_find ix (am_iT o) with
  | some q => some (q.1, q.2.1)
  | none => match am_find ix (am_iN o) with
    | some q => some (q.1, q.2.1)
    | none => none
