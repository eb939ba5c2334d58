/-! THE Z MACHINE: the small machine over a fixed shape, its ints written as Int; rules, an instruction or a stretch of them a rule -/
theorem am_mono {L : Nat} {xs : Nat → Int32} : ∀ (n n2 : Nat) (tx : Nat → Option String) (d d2 : Nat) (mt : am_M1) (pc : Nat) (lv : am_L) (st : List Value) (h : am_H) (ph : Bool) (r : am_R), n ≤ n2 → d ≤ d2 → am_run L xs n tx d mt pc lv st h ph = some r → am_run L xs n2 tx d2 mt pc lv st h ph = some r := by
  intro n
  induction n with
  | zero => intro n2 tx d d2 mt pc lv st h ph r _ _ hr; exact absurd hr (by simp [am_run])
  | succ n IH =>
    intro n2 tx d d2 mt pc lv st h ph r hn hd hr
    obtain ⟨k, rfl⟩ : ∃ k, n2 = k + 1 := ⟨n2 - 1, by omega⟩
    have hk : n ≤ k := by omega
    unfold am_run at hr ⊢
    cases hf : am_find pc (am_c mt) with
    | none => rw [hf] at hr; cases hr
    | some q =>
      obtain ⟨ins, len⟩ := q
      rw [hf] at hr
      dsimp only at hr ⊢
      cases h1 : am_simple ins len pc lv st with
      | some q =>
        obtain ⟨pc2, lv2, st2⟩ := q
        rw [h1] at hr
        dsimp only at hr ⊢
        exact IH _ _ _ _ _ _ _ _ _ _ _ hk hd hr
      | none =>
        rw [h1] at hr
        dsimp only at hr ⊢
        cases h2 : am_heap L xs tx mt ins st h ph with
        | some q =>
          obtain ⟨st2, h2', ph2, c2, s2⟩ := q
          rw [h2] at hr
          dsimp only at hr ⊢
          obtain ⟨r0, hr0, rfl⟩ := am_map_some hr
          rw [IH _ _ _ _ _ _ _ _ _ _ _ hk hd hr0]
          rfl
        | none =>
          rw [h2] at hr
          dsimp only at hr ⊢
          cases h3 : am_call mt ins st h with
          | some q =>
            obtain ⟨m2, as, rest⟩ := q
            rw [h3] at hr
            dsimp only at hr ⊢
            cases d with
            | zero => cases hr
            | succ d =>
              obtain ⟨e, rfl⟩ : ∃ e, d2 = e + 1 := ⟨d2 - 1, by omega⟩
              have he : d ≤ e := by omega
              dsimp only at hr ⊢
              cases h4 : am_run L xs n tx d m2 0 (am_ini (am_mL m2) as) [] h ph with
              | none => rw [h4] at hr; cases hr
              | some r2 =>
                rw [h4] at hr
                rw [IH _ _ _ _ _ _ _ _ _ _ _ hk he h4]
                obtain ⟨o2, h2', ph2, c2, s2⟩ := r2
                cases o2 with
                | inl v =>
                  dsimp only at hr ⊢
                  obtain ⟨r0, hr0, rfl⟩ := am_map_some hr
                  rw [IH _ _ _ _ _ _ _ _ _ _ _ hk hd hr0]
                  rfl
                | inr E =>
                  dsimp only at hr ⊢
                  cases h5 : am_hand (am_own mt) pc E (am_hh mt) with
                  | none => rw [h5] at hr; cases hr
                  | some o5 =>
                    rw [h5] at hr
                    cases o5 with
                    | none => exact hr
                    | some hp =>
                      dsimp only at hr ⊢
                      cases h6 : am_caught mt hp lv with
                      | none => rw [h6] at hr; cases hr
                      | some q6 =>
                        rw [h6] at hr
                        dsimp only at hr ⊢
                        obtain ⟨r0, hr0, rfl⟩ := am_map_some hr
                        rw [IH _ _ _ _ _ _ _ _ _ _ _ hk hd hr0]
                        rfl
          | none =>
            rw [h3] at hr
            dsimp only at hr ⊢
            cases h7 : am_ret (am_rt mt) ins st with
            | some v => rw [h7] at hr; exact hr
            | none =>
              rw [h7] at hr
              dsimp only at hr ⊢
              cases h8 : am_thr mt ins pc st with
              | some E => rw [h8] at hr; exact hr
              | none =>
                rw [h8] at hr
                dsimp only at hr ⊢
                cases h9 : am_mac mt pc lv st with
                | none => rw [h9] at hr; cases hr
                | some q9 =>
                  obtain ⟨i, a, b, c⟩ := q9
                  rw [h9] at hr
                  dsimp only at hr ⊢
                  cases d with
                  | zero => cases hr
                  | succ d =>
                    obtain ⟨e, rfl⟩ : ∃ e, d2 = e + 1 := ⟨d2 - 1, by omega⟩
                    dsimp only at hr ⊢
                    by_cases hd12 : d < 12
                    · rw [if_pos hd12] at hr; cases hr
                    · rw [if_neg hd12] at hr
                      rw [if_neg (by omega)]
                      cases h10 : am_run L xs n (am_txu tx (am_text a.toNatClampNeg b.toNatClampNeg c.toNatClampNeg)) d am_m_L_does 0 (am_ini (am_mL am_m_L_does) [.ref i, .retAddr 1000]) [] h ph with
                      | none => rw [h10] at hr; cases hr
                      | some r2 =>
                        rw [h10] at hr
                        rw [IH _ _ _ _ _ _ _ _ _ _ _ hk (by omega) h10]
                        exact hr
/-- an int, a cell of the shape, a thing outside -/
abbrev az_V : Type := Int ⊕ (Nat ⊕ Nat)
abbrev az_S : Type := Nat → Nat → Int
abbrev az_L : Type := List (Option az_V)
abbrev az_O : Type := Option az_V ⊕ Nat
abbrev az_i (z : Int) : az_V := .inl z
abbrev az_r (i : Nat) : az_V := .inr (.inl i)
abbrev az_x (i : Nat) : az_V := .inr (.inr i)
def az_e (v : az_V) : Value := match v with
  | .inl z => .int (Int32.ofInt z)
  | .inr (.inl i) => .ref i
  | .inr (.inr i) => .retAddr i
def az_el (lv : az_L) : am_L := lv.map (Option.map az_e)
def az_eo (o : az_O) : Option Value ⊕ Nat := match o with
  | .inl v => .inl (v.map az_e)
  | .inr E => .inr E
def az_c (o : az_O) : Nat := match o with
  | .inl _ => 0
  | .inr _ => 1
def az_G (s : az_S) : Nat → Nat → Int32 := fun i j => Int32.ofInt (s i j)
def az_in (z : Int) : Prop := -2147483648 ≤ z ∧ z < 2147483648
theorem az_toInt {z : Int} (h : az_in z) : (Int32.ofInt z).toInt = z := Int32.toInt_ofInt_of_le h.1 h.2
theorem az_eq {x y : Int} (hx : az_in x) (hy : az_in y) : (Int32.ofInt x = Int32.ofInt y) ↔ x = y := by
  constructor
  · intro h
    have h2 := congrArg Int32.toInt h
    rwa [az_toInt hx, az_toInt hy] at h2
  · intro h; rw [h]
theorem az_lt {x y : Int} (hx : az_in x) (hy : az_in y) : (Int32.ofInt x < Int32.ofInt y) ↔ x < y := by
  rw [Int32.lt_iff_toInt_lt, az_toInt hx, az_toInt hy]
theorem az_le {x y : Int} (hx : az_in x) (hy : az_in y) : (Int32.ofInt x ≤ Int32.ofInt y) ↔ x ≤ y := by
  rw [Int32.le_iff_toInt_le, az_toInt hx, az_toInt hy]
def az_cnd (c : Jvm.ClassFile.Cond) (x y : Int) : Prop := match c with
  | .eq => x = y
  | .ne => ¬ x = y
  | .lt => x < y
  | .ge => y ≤ x
  | .gt => y < x
  | .le => x ≤ y
theorem az_cnd_iff (c : Jvm.ClassFile.Cond) {x y : Int} (hx : az_in x) (hy : az_in y) : am_cond c (Int32.ofInt x) (Int32.ofInt y) = true ↔ az_cnd c x y := by
  cases c <;> simp only [am_cond, az_cnd, decide_eq_true_eq, az_eq hx hy, az_lt hx hy, az_lt hy hx, az_le hx hy, az_le hy hx]
theorem az_8 : ∀ k : Fin 256, (Int8.ofInt ((k.val : Int) - 128)).toInt32 = Int32.ofInt ((k.val : Int) - 128) := by decide +kernel
theorem az_bi {k : Int} (h : -128 ≤ k ∧ k < 128) : (Int8.ofInt k).toInt32 = Int32.ofInt k := by
  have h2 := az_8 ⟨(k + 128).toNat, by omega⟩
  have h3 : (((k + 128).toNat : Nat) : Int) - 128 = k := by omega
  rw [h3] at h2
  exact h2
theorem az_si {k : Int} (h : -32768 ≤ k ∧ k < 32768) : (Int16.ofInt k).toInt32 = Int32.ofInt k := by
  apply Int32.toInt.inj
  rw [Int16.toInt_toInt32, Int16.toInt_ofInt_of_le h.1 h.2, az_toInt ⟨by omega, by omega⟩]
theorem az_i2c (z : Int) : ((Int32.ofInt z).toUInt32 % 65536).toInt32 = Int32.ofInt (z % 65536) := by
  apply Int32.toBitVec_inj.1
  apply BitVec.eq_of_toNat_eq
  rw [UInt32.toBitVec_toInt32, Int32.toBitVec_ofInt, UInt32.toBitVec_mod, Int32.toBitVec_toUInt32, Int32.toBitVec_ofInt]
  rw [BitVec.toNat_umod, BitVec.toNat_ofInt, BitVec.toNat_ofInt]
  have h3 : (UInt32.toBitVec 65536).toNat = 65536 := by decide
  rw [h3]
  omega
def az_ld (lv : az_L) (i : Nat) : Option az_V := match lv[i]? with
  | some o => o
  | none => none
theorem az_ld_ok (lv : az_L) (i : Nat) : am_ld (az_el lv) i = (az_ld lv i).map az_e := by
  unfold am_ld az_ld az_el
  rw [List.getElem?_map]
  cases lv[i]? with
  | none => rfl
  | some o => rfl
theorem az_cat (v : az_V) : (az_e v).category = 1 := by
  match v with
  | .inl z => rfl
  | .inr (.inl i) => rfl
  | .inr (.inr i) => rfl
theorem az_dk (o : Option az_V) : am_dk (o.map az_e) = o.map az_e := by
  cases o with
  | none => rfl
  | some v =>
    show (if (az_e v).category = 2 then none else some (az_e v)) = _
    rw [if_neg (by rw [az_cat]; decide)]
    rfl
theorem az_sto : ∀ (lv : az_L) (i : Nat) (v : az_V), am_sto (az_el lv) i (az_e v) = az_el (lv.set i (some v)) := by
  intro lv
  induction lv with
  | nil => intro i v; cases i <;> rfl
  | cons o l ih =>
    intro i v
    match i with
    | 0 =>
      show some (az_e v) :: (if (az_e v).category = 2 then _ else az_el l) = _
      rw [if_neg (by rw [az_cat]; decide)]
      rfl
    | 1 =>
      show am_dk (o.map az_e) :: am_sto (az_el l) 0 (az_e v) = _
      rw [az_dk, ih]
      rfl
    | i + 2 =>
      show o.map az_e :: am_sto (az_el l) (i + 1) (az_e v) = _
      rw [ih]
      rfl
theorem az_el_len (lv : az_L) : (az_el lv).length = lv.length := List.length_map _
def az_lod (lv : az_L) (i : Nat) (b : Bool) (pc len : Nat) (st : List az_V) : Option (Nat × az_L × List az_V) := match az_ld lv i with
  | some v => if v.isLeft = b then some (pc + len, lv, v :: st) else none
  | none => none
def az_stv (lv : az_L) (i : Nat) (b : Bool) (pc len : Nat) (st : List az_V) : Option (Nat × az_L × List az_V) := match st with
  | v :: st => if v.isLeft = b ∧ i < lv.length then some (pc + len, lv.set i (some v), st) else none
  | [] => none
theorem az_isI (v : az_V) : am_isI (az_e v) = v.isLeft := by
  match v with
  | .inl z => rfl
  | .inr (.inl i) => rfl
  | .inr (.inr i) => rfl
theorem az_isA (v : az_V) : am_isA (az_e v) = !v.isLeft := by
  match v with
  | .inl z => rfl
  | .inr (.inl i) => rfl
  | .inr (.inr i) => rfl
def az_simple (ins : Instr) (len pc : Nat) (lv : az_L) (st : List az_V) : Option (Nat × az_L × List az_V) := match ins with
  | .iload i => az_lod lv i true pc len st
  | .iload_n i => az_lod lv i true pc len st
  | .aload i => az_lod lv i false pc len st
  | .aload_n i => az_lod lv i false pc len st
  | .istore i => az_stv lv i true pc len st
  | .istore_n i => az_stv lv i true pc len st
  | .astore i => az_stv lv i false pc len st
  | .astore_n i => az_stv lv i false pc len st
  | .iconst k => some (pc + len, lv, .inl k :: st)
  | .bipush k => if -128 ≤ k ∧ k < 128 then some (pc + len, lv, .inl k :: st) else none
  | .sipush k => if -32768 ≤ k ∧ k < 32768 then some (pc + len, lv, .inl k :: st) else none
  | .iinc i k => match az_ld lv i with
    | some (.inl x) => if i < lv.length then some (pc + len, lv.set i (some (.inl (x + k))), st) else none
    | _ => none
  | .iadd => match st with
    | .inl y :: .inl x :: st => some (pc + len, lv, .inl (x + y) :: st)
    | _ => none
  | .isub => match st with
    | .inl y :: .inl x :: st => some (pc + len, lv, .inl (x - y) :: st)
    | _ => none
  | .imul => match st with
    | .inl y :: .inl x :: st => some (pc + len, lv, .inl (x * y) :: st)
    | _ => none
  | .ineg => match st with
    | .inl x :: st => some (pc + len, lv, .inl (-x) :: st)
    | _ => none
  | .i2c => match st with
    | .inl x :: st => some (pc + len, lv, .inl (x % 65536) :: st)
    | _ => none
  | .dup => match st with
    | v :: st => some (pc + len, lv, v :: v :: st)
    | _ => none
  | .dup2 => match st with
    | v :: w :: st => some (pc + len, lv, v :: w :: v :: w :: st)
    | _ => none
  | .pop => match st with
    | _ :: st => some (pc + len, lv, st)
    | _ => none
  | .goto off => if 0 ≤ (pc : Int) + off then some (am_tgt pc off, lv, st) else none
  | _ => none
theorem az_lod_ok {lv : az_L} {i : Nat} {b : Bool} {pc len : Nat} {st : List az_V} {r : Nat × az_L × List az_V} {p : Value → Bool} (hp : ∀ v : az_V, v.isLeft = b → p (az_e v) = true) (h : az_lod lv i b pc len st = some r) : am_lod (az_el lv) i p pc len (st.map az_e) = some (r.1, az_el r.2.1, r.2.2.map az_e) := by
  unfold az_lod at h
  unfold am_lod
  rw [az_ld_ok]
  cases hl : az_ld lv i with
  | none => rw [hl] at h; cases h
  | some v =>
    rw [hl] at h
    dsimp only at h
    by_cases hb : v.isLeft = b
    · rw [if_pos hb] at h
      cases h
      show (if p (az_e v) = true then _ else none) = _
      rw [if_pos (hp v hb)]
      rfl
    · rw [if_neg hb] at h; cases h
theorem az_stv_ok {lv : az_L} {i : Nat} {b : Bool} {pc len : Nat} {st : List az_V} {r : Nat × az_L × List az_V} {p : Value → Bool} (hp : ∀ v : az_V, v.isLeft = b → p (az_e v) = true) (h : az_stv lv i b pc len st = some r) : am_stv (az_el lv) i p pc len (st.map az_e) = some (r.1, az_el r.2.1, r.2.2.map az_e) := by
  unfold az_stv at h
  unfold am_stv
  cases st with
  | nil => cases h
  | cons v st =>
    dsimp only at h
    by_cases hb : v.isLeft = b ∧ i < lv.length
    · rw [if_pos hb] at h
      cases h
      show (if (p (az_e v) && decide (i < (az_el lv).length)) = true then some (_, am_sto (az_el lv) i (az_e v), _) else none) = _
      rw [if_pos (by rw [hp v hb.1, az_el_len]; simp [hb.2]), az_sto]
    · rw [if_neg hb] at h; cases h
set_option maxHeartbeats 4000000 in
theorem az_simple_ok {ins : Instr} {len pc : Nat} {lv : az_L} {st : List az_V} {r : Nat × az_L × List az_V} (h : az_simple ins len pc lv st = some r) : am_simple ins len pc (az_el lv) (st.map az_e) = some (r.1, az_el r.2.1, r.2.2.map az_e) := by
  have hI : ∀ v : az_V, v.isLeft = true → am_isI (az_e v) = true := fun v q => by rw [az_isI]; exact q
  have hA : ∀ v : az_V, v.isLeft = false → am_isA (az_e v) = true := fun v q => by rw [az_isA, q]; rfl
  unfold az_simple at h
  split at h
  · exact az_lod_ok hI h
  · exact az_lod_ok hI h
  · exact az_lod_ok hA h
  · exact az_lod_ok hA h
  · exact az_stv_ok hI h
  · exact az_stv_ok hI h
  · exact az_stv_ok hA h
  · exact az_stv_ok hA h
  · cases h; rfl
  · split at h
    next hk => cases h; show some (_, _, Value.int (Int8.ofInt _).toInt32 :: _) = _; rw [az_bi hk]; rfl
    next => cases h
  · split at h
    next hk => cases h; show some (_, _, Value.int (Int16.ofInt _).toInt32 :: _) = _; rw [az_si hk]; rfl
    next => cases h
  · next i k =>
    split at h
    next x hl =>
      split at h
      next hi =>
        cases h
        show (match am_ld (az_el lv) i with
          | some (.int x) => if i < (az_el lv).length then some (pc + len, am_sto (az_el lv) i (.int (x + Int32.ofInt k)), st.map az_e) else none
          | _ => none) = _
        rw [az_ld_ok, hl]
        show (if i < (az_el lv).length then some (pc + len, am_sto (az_el lv) i (.int (Int32.ofInt x + Int32.ofInt k)), st.map az_e) else none) = _
        rw [az_el_len, if_pos hi, ← Int32.ofInt_add]
        have h2 := az_sto lv i (.inl (x + k))
        unfold az_e at h2
        rw [h2]
      next => cases h
    next => cases h
  · split at h
    next => cases h; show some (_, _, Value.int (Int32.ofInt _ + Int32.ofInt _) :: _) = _; rw [← Int32.ofInt_add]; rfl
    next => cases h
  · split at h
    next => cases h; show some (_, _, Value.int (Int32.ofInt _ - Int32.ofInt _) :: _) = _; rw [← Int32.ofInt_sub]; rfl
    next => cases h
  · split at h
    next => cases h; show some (_, _, Value.int (Int32.ofInt _ * Int32.ofInt _) :: _) = _; rw [← Int32.ofInt_mul]; rfl
    next => cases h
  · split at h
    next => cases h; show some (_, _, Value.int (-Int32.ofInt _) :: _) = _; rw [← Int32.ofInt_neg]; rfl
    next => cases h
  · split at h
    next => cases h; show some (_, _, Value.int ((Int32.ofInt _).toUInt32 % 65536).toInt32 :: _) = _; rw [az_i2c]; rfl
    next => cases h
  · split at h
    next v _ => cases h; show (if (az_e v).category = 1 then some (_, _, _) else none) = _; rw [if_pos (az_cat v)]; rfl
    next => cases h
  · split at h
    next v w _ => cases h; show (if (az_e v).category = 1 then (if (az_e w).category = 1 then some (_, _, _) else none) else none) = _; rw [if_pos (az_cat v), if_pos (az_cat w)]; rfl
    next => cases h
  · split at h
    next v _ => cases h; show (if (az_e v).category = 1 then some (_, _, _) else none) = _; rw [if_pos (az_cat v)]
    next => cases h
  · next off =>
    split at h
    next ho => cases h; show (if 0 ≤ (pc : Int) + off then some (_, _, _) else none) = _; rw [if_pos ho]
    next => cases h
  · cases h
/-- the shape behind the law's constructors -/
def az_K : List am_E := [.inr (9, [some (.ref 1), some (.ref 4), some (.ref 6), some (.ref 17), some (.ref 20), none, some (.ref 22), some (.ref 25), some (.ref 30), some (.ref 33), none]), .inr (8, [some (.ref 2)]), .inr (5, [some (.ref 3)]), .inl (0, 184), .inr (0, [some (.ref 1), some (.ref 5)]), .inr (6, [none, none, none, none]), .inr (7, [some (.ref 1), some (.ref 7), some (.ref 9), some (.ref 11), some (.ref 13), some (.ref 15)]), .inr (5, [some (.ref 8)]), .inl (0, 10), .inr (5, [some (.ref 10)]), .inl (0, 6), .inr (5, [some (.ref 12)]), .inl (0, 6), .inr (5, [some (.ref 14)]), .inl (0, 6), .inr (5, [some (.ref 16)]), .inl (0, 6), .inr (2, [some (.ref 18), none, none]), .inr (5, [some (.ref 19)]), .inl (0, 1656), .inr (5, [some (.ref 21)]), .inl (0, 184), .inr (3, [some (.ref 23), none, none]), .inr (5, [some (.ref 24)]), .inl (0, 60), .inr (1, [some (.ref 22), some (.ref 26), some (.ref 28), none, none, none]), .inr (5, [some (.ref 27)]), .inl (0, 11), .inr (5, [some (.ref 29)]), .inl (0, 44), .inr (3, [some (.ref 31), none, none]), .inr (5, [some (.ref 32)]), .inl (0, 16), .inr (4, [none, none, none, none])]
/-- rows of ints behind the class's cells -/
abbrev az_KE (e : List Nat) : List am_E := az_K ++ e.map (fun n => .inl (0, n))
theorem az_Ke {e : List Nat} {i : Nat} {x : am_E} (h : az_K[i]? = some x) : (az_KE e)[i]? = some x := by
  rw [List.getElem?_append_left (List.getElem?_eq_some_iff.mp h).1]
  exact h
def az_nar (ty : FieldType) (z : Int) : Bool := match ty with
  | .int => true
  | .boolean => decide (z = 0) || decide (z = 1)
  | _ => false
theorem az_nar_ok {ty : FieldType} {z : Int} (h : az_nar ty z = true) : am_nar ty (.int (Int32.ofInt z)) = true := by
  unfold az_nar at h
  split at h
  · rfl
  · simp only [Bool.or_eq_true, decide_eq_true_eq] at h
    rcases h with rfl | rfl <;> decide +kernel
  · cases h
/-- instructions that touch the heap -/
def az_heap (mt : am_M1) (ins : Instr) (st : List az_V) (s : az_S) : Option (List az_V × az_S) := match ins with
  | .getfield ix => match st with
    | .inr (.inl i) :: st => match am_fld (am_own mt) ix with
      | some q => match az_K[i]? with
        | some (.inr (cj, fs)) => if cj = q.1 then (match fs[q.2]? with
          | some none => some (.inl (s i q.2) :: st, s)
          | some (some (.ref a)) => some (.inr (.inl a) :: st, s)
          | _ => none) else none
        | _ => none
      | none => none
    | _ => none
  | .putfield ix => match st with
    | .inl z :: .inr (.inl i) :: st => match am_find ix (am_fT (am_own mt)) with
      | some q => match az_K[i]? with
        | some (.inr (cj, fs)) => if cj = q.1 ∧ (az_nar (am_tX q.1 q.2.1) z = true ∧ (am_TX q.1 q.2.1).2.2.2 = false) then (match fs[q.2.1]? with
          | some none => some (st, am_up s i q.2.1 z)
          | _ => none) else none
        | _ => none
      | none => none
    | _ => none
  | .iaload => match st with
    | .inl z :: .inr (.inl i) :: st => match az_K[i]? with
      | some (.inl (k, n)) => if k = 0 ∧ (0 ≤ z ∧ z < n ∧ n < 2147483648) then some (.inl (s i z.toNat) :: st, s) else none
      | _ => none
    | _ => none
  | .iastore => match st with
    | .inl x :: .inl z :: .inr (.inl i) :: st => match az_K[i]? with
      | some (.inl (k, n)) => if k = 0 ∧ (0 ≤ z ∧ z < n ∧ n < 2147483648) then some (st, am_up s i z.toNat x) else none
      | _ => none
    | _ => none
  | .arraylength => match st with
    | .inr (.inl i) :: st => match az_K[i]? with
      | some (.inl (k, n)) => if k = 0 then some (.inl n :: st, s) else none
      | _ => none
    | _ => none
  | .ldc ix => match am_find ix (am_kT (am_own mt)) with
    | some q => some (.inl q.1.toInt :: st, s)
    | none => match am_find ix (am_sT (am_own mt)) with
      | some i => some (.inr (.inr (i + 1)) :: st, s)
      | none => none
  | .ldc_w ix => match am_find ix (am_kT (am_own mt)) with
    | some q => some (.inl q.1.toInt :: st, s)
    | none => match am_find ix (am_sT (am_own mt)) with
      | some i => some (.inr (.inr (i + 1)) :: st, s)
      | none => none
  | _ => none
theorem az_G_up (s : az_S) (i j : Nat) (z : Int) : az_G (am_up s i j z) = am_up (az_G s) i j (Int32.ofInt z) := by
  funext a b
  unfold az_G am_up
  split
  · split <;> rfl
  · rfl
theorem az_idx {z : Int} {n : Nat} (h : 0 ≤ z ∧ z < n ∧ n < 2147483648) : (Int32.ofInt z).toNatClampNeg = z.toNat ∧ am_in (Int32.ofInt z) n = true := by
  have e1 : (Int32.ofInt z).toNatClampNeg = z.toNat := Int32.toNatClampNeg_ofInt_of_le (by omega) (by omega)
  refine ⟨e1, ?_⟩
  unfold am_in
  rw [e1, decide_eq_true_eq, Int32.lt_iff_toInt_lt, az_toInt ⟨by omega, by omega⟩]
  have h0 : (0 : Int32).toInt = 0 := by decide
  rw [h0]
  omega
set_option maxHeartbeats 4000000 in
theorem az_heap_ok {mt : am_M1} {ins : Instr} {st st2 : List az_V} {s s2 : az_S} (h : az_heap mt ins st s = some (st2, s2)) (len pc : Nat) (lv : am_L) (L : Nat) (xs : Nat → Int32) (tx : Nat → Option String) (e : List Nat) (gl : Nat → Nat → Int64) (gd : Nat → Nat → UInt64) :
    am_simple ins len pc lv (st.map az_e) = none ∧ am_heap L xs tx mt ins (st.map az_e) (az_KE e, az_G s, gl, gd) false = some (st2.map az_e, (az_KE e, az_G s2, gl, gd), false, 0, 0) := by
  unfold az_heap at h
  split at h
  · next ix =>
    refine ⟨rfl, ?_⟩
    split at h
    next i st =>
      split at h
      next q hq =>
        split at h
        next cj fs hk0 =>
          have hk := az_Ke (e := e) hk0
          split at h
          next hc =>
            split at h
            next hf =>
              cases h
              simp only [am_heap, List.map_cons, az_e, hq, hk, hc, hf, if_pos]
              rfl
            next a hf =>
              cases h
              simp only [am_heap, List.map_cons, az_e, hq, hk, hc, hf, if_pos]
              rfl
            next => cases h
          next => cases h
        next => cases h
      next => cases h
    next => cases h
  · next ix =>
    refine ⟨rfl, ?_⟩
    split at h
    next z i st =>
      split at h
      next q hq =>
        split at h
        next cj fs hk0 =>
          have hk := az_Ke (e := e) hk0
          split at h
          next hc =>
            split at h
            next hf =>
              cases h
              simp only [am_heap, List.map_cons, az_e, hq, hk]
              rw [if_pos ⟨hc.1, az_nar_ok hc.2.1, Or.inl hc.2.2⟩]
              simp only [hf]
              rw [az_G_up]
            next => cases h
          next => cases h
        next => cases h
      next => cases h
    next => cases h
  · refine ⟨rfl, ?_⟩
    split at h
    next z i st =>
      split at h
      next k n hk0 =>
        have hk := az_Ke (e := e) hk0
        split at h
        next hc =>
          cases h
          obtain ⟨e1, e2⟩ := az_idx hc.2
          simp only [am_heap, List.map_cons, az_e, hk]
          rw [if_pos ⟨hc.1, e2⟩, e1]
          rfl
        next => cases h
      next => cases h
    next => cases h
  · refine ⟨rfl, ?_⟩
    split at h
    next x z i st =>
      split at h
      next k n hk0 =>
        have hk := az_Ke (e := e) hk0
        split at h
        next hc =>
          cases h
          obtain ⟨e1, e2⟩ := az_idx hc.2
          simp only [am_heap, List.map_cons, az_e, hk]
          rw [if_pos ⟨hc.1, e2⟩, e1, az_G_up]
        next => cases h
      next => cases h
    next => cases h
  · refine ⟨rfl, ?_⟩
    split at h
    next i st =>
      split at h
      next k n hk0 =>
        have hk := az_Ke (e := e) hk0
        split at h
        next hc =>
          cases h
          simp only [am_heap, List.map_cons, az_e, hk]
          rw [if_pos hc, Int32.ofInt_eq_ofNat]
        next => cases h
      next => cases h
    next => cases h
  · next ix =>
    refine ⟨rfl, ?_⟩
    split at h
    next q hq =>
      cases h
      simp only [am_heap, hq, List.map_cons, az_e, Int32.ofInt_toInt]
    next hq =>
      split at h
      next i hi =>
        cases h
        simp only [am_heap, hq, hi, List.map_cons, az_e]
      next => cases h
  · next ix =>
    refine ⟨rfl, ?_⟩
    split at h
    next q hq =>
      cases h
      simp only [am_heap, hq, List.map_cons, az_e, Int32.ofInt_toInt]
    next hq =>
      split at h
      next i hi =>
        cases h
        simp only [am_heap, hq, hi, List.map_cons, az_e]
      next => cases h
  · cases h
/-- a run to its end, on every script and whatever the longs and doubles are -/
def az_R (d : Nat) (mt : am_M1) (pc : Nat) (lv : az_L) (st : List az_V) (s : az_S) (Q : az_O → az_S → Prop) : Prop :=
  ∀ (L : Nat) (xs : Nat → Int32) (tx : Nat → Option String) (_ : ∀ i t, am_sx[i]? = some t → tx i = some t) (e : List Nat) (gl : Nat → Nat → Int64) (gd : Nat → Nat → UInt64), ∃ n o t, am_run L xs n tx d mt pc (az_el lv) (st.map az_e) (az_KE e, az_G s, gl, gd) false = some (az_eo o, (az_KE e, az_G t, gl, gd), false, az_c o, 6 * az_c o) ∧ Q o t
theorem am_add0 : am_add 0 0 = id := by
  funext r
  obtain ⟨a, b, c, d, e⟩ := r
  simp [am_add]
theorem am_1s {L : Nat} {xs : Nat → Int32} {tx : Nat → Option String} {n d : Nat} {mt : am_M1} {pc : Nat} {lv : am_L} {st : List Value} {h : am_H} {ins : Instr} {len pc2 : Nat} {lv2 : am_L} {st2 : List Value} (hf : am_find pc (am_c mt) = some (ins, len)) (h1 : am_simple ins len pc lv st = some (pc2, lv2, st2)) : am_run L xs (n + 1) tx d mt pc lv st h false = am_run L xs n tx d mt pc2 lv2 st2 h false := by
  conv => lhs; unfold am_run
  rw [hf]
  dsimp only
  rw [h1]
theorem am_1h {L : Nat} {xs : Nat → Int32} {tx : Nat → Option String} {n d : Nat} {mt : am_M1} {pc : Nat} {lv : am_L} {st : List Value} {h h2 : am_H} {ins : Instr} {len : Nat} {st2 : List Value} (hf : am_find pc (am_c mt) = some (ins, len)) (h1 : am_simple ins len pc lv st = none) (hh : am_heap L xs tx mt ins st h false = some (st2, h2, false, 0, 0)) : am_run L xs (n + 1) tx d mt pc lv st h false = am_run L xs n tx d mt (pc + len) lv st2 h2 false := by
  conv => lhs; unfold am_run
  rw [hf]
  dsimp only
  rw [h1]
  dsimp only
  rw [hh]
  dsimp only
  rw [am_add0, Option.map_id]
  rfl
section AZR
variable {d : Nat} {mt : am_M1} {pc : Nat} {lv : az_L} {st : List az_V} {s : az_S} {Q : az_O → az_S → Prop}
/-- one step -/
theorem az_step {pc2 : Nat} {lv2 : az_L} {st2 : List az_V} {s2 : az_S} (h : ∀ (n L : Nat) (xs : Nat → Int32) (tx : Nat → Option String) (_ : ∀ i t, am_sx[i]? = some t → tx i = some t) (e : List Nat) (gl : Nat → Nat → Int64) (gd : Nat → Nat → UInt64), am_run L xs (n + 1) tx d mt pc (az_el lv) (st.map az_e) (az_KE e, az_G s, gl, gd) false = am_run L xs n tx d mt pc2 (az_el lv2) (st2.map az_e) (az_KE e, az_G s2, gl, gd) false) (H : az_R d mt pc2 lv2 st2 s2 Q) : az_R d mt pc lv st s Q := by
  intro L xs tx htx e gl gd
  obtain ⟨n, o, t, h1, h2⟩ := H L xs tx htx e gl gd
  exact ⟨n + 1, o, t, by rw [h n L xs tx htx e gl gd]; exact h1, h2⟩
theorem az_post {Q2 : az_O → az_S → Prop} (H : az_R d mt pc lv st s Q) (h : ∀ o t, Q o t → Q2 o t) : az_R d mt pc lv st s Q2 := by
  intro L xs tx htx e gl gd
  obtain ⟨n, o, t, h1, h2⟩ := H L xs tx htx e gl gd
  exact ⟨n, o, t, h1, h o t h2⟩
theorem az_deep {d2 : Nat} (H : az_R d mt pc lv st s Q) (h : d ≤ d2) : az_R d2 mt pc lv st s Q := by
  intro L xs tx htx e gl gd
  obtain ⟨n, o, t, h1, h2⟩ := H L xs tx htx e gl gd
  exact ⟨n, o, t, am_mono _ _ _ _ _ _ _ _ _ _ _ _ (Nat.le_refl n) h h1, h2⟩
/-- a stretch of instructions without a choice -/
def az_go : Nat → am_M1 → Nat → az_L → List az_V → az_S → Option (Nat × az_L × List az_V × az_S)
  | 0, _, pc, lv, st, s => some (pc, lv, st, s)
  | k + 1, mt, pc, lv, st, s => match am_find pc (am_c mt) with
    | none => none
    | some (ins, len) => match az_simple ins len pc lv st with
      | some (pc2, lv2, st2) => az_go k mt pc2 lv2 st2 s
      | none => match az_heap mt ins st s with
        | some (st2, s2) => az_go k mt (pc + len) lv st2 s2
        | none => none
theorem az_to (k : Nat) {pc2 : Nat} {lv2 : az_L} {st2 : List az_V} {s2 : az_S} (h : az_go k mt pc lv st s = some (pc2, lv2, st2, s2)) (H : az_R d mt pc2 lv2 st2 s2 Q) : az_R d mt pc lv st s Q := by
  induction k generalizing pc lv st s with
  | zero => cases h; exact H
  | succ k ih =>
    unfold az_go at h
    cases hf : am_find pc (am_c mt) with
    | none => rw [hf] at h; cases h
    | some q =>
      obtain ⟨ins, len⟩ := q
      rw [hf] at h
      dsimp only at h
      cases h1 : az_simple ins len pc lv st with
      | some q =>
        obtain ⟨pc3, lv3, st3⟩ := q
        rw [h1] at h
        dsimp only at h
        refine az_step (fun n L xs tx htx e gl gd => am_1s hf (az_simple_ok h1)) (ih h)
      | none =>
        rw [h1] at h
        dsimp only at h
        cases h2 : az_heap mt ins st s with
        | none => rw [h2] at h; cases h
        | some q =>
          obtain ⟨st3, s3⟩ := q
          rw [h2] at h
          dsimp only at h
          exact az_step (fun n L xs tx htx e gl gd => am_1h hf (az_heap_ok h2 _ _ _ L xs tx e gl gd).1 (az_heap_ok h2 len pc (az_el lv) L xs tx e gl gd).2) (ih h)
theorem az_br {b : Bool} {off : Int} {pc2 pc3 : Nat} (hz : 0 ≤ (pc : Int) + off ∧ am_tgt pc off = pc2 ∧ pc + 3 = pc3) (L1 : am_L) (S1 : List Value) : am_br b pc off L1 S1 = some (if b then pc2 else pc3, L1, S1) := by
  unfold am_br
  rw [if_pos hz.1, hz.2.1, hz.2.2]
theorem az_ifc {c : Jvm.ClassFile.Cond} {off : Int} {x : Int} {len : Nat} (pc2 pc3 : Nat) (hf : am_find pc (am_c mt) = some (.ifCond c off, len)) (hz : 0 ≤ (pc : Int) + off ∧ am_tgt pc off = pc2 ∧ pc + 3 = pc3) (hx : az_in x) (H1 : az_cnd c x 0 → az_R d mt pc2 lv st s Q) (H2 : ¬ az_cnd c x 0 → az_R d mt pc3 lv st s Q) : az_R d mt pc lv (.inl x :: st) s Q := by
  have h0 : az_in 0 := ⟨by decide, by decide⟩
  have key : ∀ b : Bool, am_cond c (Int32.ofInt x) 0 = b → am_simple (.ifCond c off) len pc (az_el lv) ((.inl x :: st : List az_V).map az_e) = some (if b then pc2 else pc3, az_el lv, st.map az_e) := fun b hb => by
    show am_br (am_cond c (Int32.ofInt x) 0) pc off _ _ = _
    rw [hb]
    exact az_br hz _ _
  by_cases hc : az_cnd c x 0
  · exact az_step (fun n L xs tx htx e gl gd => am_1s hf (key true ((az_cnd_iff c hx h0).mpr hc))) (H1 hc)
  · exact az_step (fun n L xs tx htx e gl gd => am_1s hf (key false (by
      cases hq : am_cond c (Int32.ofInt x) 0 with
      | false => rfl
      | true => exact absurd ((az_cnd_iff c hx h0).mp hq) hc))) (H2 hc)
theorem az_if2 {c : Jvm.ClassFile.Cond} {off : Int} {x y : Int} {len : Nat} (pc2 pc3 : Nat) (hf : am_find pc (am_c mt) = some (.if_icmp c off, len)) (hz : 0 ≤ (pc : Int) + off ∧ am_tgt pc off = pc2 ∧ pc + 3 = pc3) (hx : az_in x) (hy : az_in y) (H1 : az_cnd c x y → az_R d mt pc2 lv st s Q) (H2 : ¬ az_cnd c x y → az_R d mt pc3 lv st s Q) : az_R d mt pc lv (.inl y :: .inl x :: st) s Q := by
  have key : ∀ b : Bool, am_cond c (Int32.ofInt x) (Int32.ofInt y) = b → am_simple (.if_icmp c off) len pc (az_el lv) ((.inl y :: .inl x :: st : List az_V).map az_e) = some (if b then pc2 else pc3, az_el lv, st.map az_e) := fun b hb => by
    show am_br (am_cond c (Int32.ofInt x) (Int32.ofInt y)) pc off _ _ = _
    rw [hb]
    exact az_br hz _ _
  by_cases hc : az_cnd c x y
  · exact az_step (fun n L xs tx htx e gl gd => am_1s hf (key true ((az_cnd_iff c hx hy).mpr hc))) (H1 hc)
  · exact az_step (fun n L xs tx htx e gl gd => am_1s hf (key false (by
      cases hq : am_cond c (Int32.ofInt x) (Int32.ofInt y) with
      | false => rfl
      | true => exact absurd ((az_cnd_iff c hx hy).mp hq) hc))) (H2 hc)
/-- a yes or no as an int -/
def az_b (p : Prop) [Decidable p] : Int := if p then 1 else 0
theorem az_b1 {p : Prop} [Decidable p] (h : p) : az_b p = 1 := if_pos h
theorem az_b0 {p : Prop} [Decidable p] (h : ¬ p) : az_b p = 0 := if_neg h
theorem az_b_in {p : Prop} [Decidable p] : az_in (az_b p) := by
  unfold az_b az_in
  split <;> decide
theorem az_ifbe {off : Int} {p : Prop} [Decidable p] {len : Nat} (pc2 pc3 : Nat) (hf : am_find pc (am_c mt) = some (.ifCond .eq off, len)) (hz : 0 ≤ (pc : Int) + off ∧ am_tgt pc off = pc2 ∧ pc + 3 = pc3) (H1 : ¬ p → az_R d mt pc2 lv st s Q) (H2 : p → az_R d mt pc3 lv st s Q) : az_R d mt pc lv (.inl (az_b p) :: st) s Q :=
  az_ifc pc2 pc3 hf hz az_b_in (fun h => H1 (fun q => by rw [az_b1 q] at h; exact absurd (show (1 : Int) = 0 from h) (by decide))) (fun h => H2 (by
    by_cases q : p
    · exact q
    · rw [az_b0 q] at h; exact absurd rfl h))
theorem az_ifbn {off : Int} {p : Prop} [Decidable p] {len : Nat} (pc2 pc3 : Nat) (hf : am_find pc (am_c mt) = some (.ifCond .ne off, len)) (hz : 0 ≤ (pc : Int) + off ∧ am_tgt pc off = pc2 ∧ pc + 3 = pc3) (H1 : p → az_R d mt pc2 lv st s Q) (H2 : ¬ p → az_R d mt pc3 lv st s Q) : az_R d mt pc lv (.inl (az_b p) :: st) s Q :=
  az_ifc pc2 pc3 hf hz az_b_in (fun h => H1 (by
    by_cases q : p
    · exact q
    · rw [az_b0 q] at h; exact absurd rfl h)) (fun h => H2 (fun q => by
    rw [az_b1 q] at h; exact h (by show ¬ (1 : Int) = 0; decide)))
/-- a switch, at a number that is known -/
theorem az_swc {df lo hi : Int} {offs : Array Int} {x : Int} {len : Nat} (pc2 : Nat) (hf : am_find pc (am_c mt) = some (.tableswitch df lo hi offs, len)) (hx : az_in x) (hz : ¬ (x < lo ∨ hi < x)) {off : Int} (ho : offs[(x - lo).toNat]? = some off) (ht : 0 ≤ (pc : Int) + off ∧ am_tgt pc off = pc2) (H : az_R d mt pc2 lv st s Q) : az_R d mt pc lv (.inl x :: st) s Q := by
  refine az_step (fun n L xs tx htx e gl gd => am_1s hf ?_) H
  simp only [am_simple, List.map_cons, az_e]
  rw [az_toInt hx, if_neg hz]
  simp only [ho]
  rw [if_pos ht.1, ht.2]
theorem az_swd {df lo hi : Int} {offs : Array Int} {x : Int} {len : Nat} (pc2 : Nat) (hf : am_find pc (am_c mt) = some (.tableswitch df lo hi offs, len)) (hx : az_in x) (hz : x < lo ∨ hi < x) (ht : 0 ≤ (pc : Int) + df ∧ am_tgt pc df = pc2) (H : az_R d mt pc2 lv st s Q) : az_R d mt pc lv (.inl x :: st) s Q := by
  refine az_step (fun n L xs tx htx e gl gd => am_1s hf ?_) H
  simp only [am_simple, List.map_cons, az_e]
  rw [az_toInt hx, if_pos hz, if_pos ht.1, ht.2]
theorem az_cs (st : List az_V) : am_cs (st.map az_e) = st.length := by
  induction st with
  | nil => rfl
  | cons v st ih =>
    show (az_e v).category + am_cs (st.map az_e) = st.length + 1
    rw [az_cat, ih]
    omega
/-- rows: a read, a write -/
theorem az_ld_i {i n : Nat} {z : Int} {len : Nat} (pc2 : Nat) (hf : am_find pc (am_c mt) = some (.iaload, len)) (hk : az_K[i]? = some (.inl (0, n))) (hz : 0 ≤ z ∧ z < n) (hn : n < 2147483648 ∧ pc + len = pc2) (H : az_R d mt pc2 lv (.inl (s i z.toNat) :: st) s Q) : az_R d mt pc lv (.inl z :: .inr (.inl i) :: st) s Q := by
  refine az_to 1 ?_ H
  unfold az_go
  rw [hf]
  simp only [az_simple, az_heap, hk]
  rw [if_pos ⟨trivial, hz.1, hz.2, hn.1⟩]
  simp only [az_go, hn.2]
theorem az_st_i {i n : Nat} {x z : Int} {len : Nat} (pc2 : Nat) (hf : am_find pc (am_c mt) = some (.iastore, len)) (hk : az_K[i]? = some (.inl (0, n))) (hz : 0 ≤ z ∧ z < n) (hn : n < 2147483648 ∧ pc + len = pc2) (H : az_R d mt pc2 lv st (am_up s i z.toNat x) Q) : az_R d mt pc lv (.inl x :: .inl z :: .inr (.inl i) :: st) s Q := by
  refine az_to 1 ?_ H
  unfold az_go
  rw [hf]
  simp only [az_simple, az_heap, hk]
  rw [if_pos ⟨trivial, hz.1, hz.2, hn.1⟩]
  simp only [az_go, hn.2]
theorem az_max {ix : Nat} {x y : Int} {q : Nat × Nat} {len : Nat} (pc2 : Nat) (hf : am_find pc (am_c mt) = some (.invokestatic ix, len)) (hb : am_find ix (am_bT (am_own mt)) = some q) (hq : q.1 = 0 ∧ st.length ≤ 8 ∧ pc + len = pc2) (hx : az_in x) (hy : az_in y) (H : az_R d mt pc2 lv (.inl (if x < y then y else x) :: st) s Q) : az_R d mt pc lv (.inl y :: .inl x :: st) s Q := by
  refine az_step (fun n L xs tx htx e gl gd => ?_) H
  rw [← hq.2.2]
  refine am_1h hf rfl ?_
  simp only [am_heap, hb, List.map_cons, az_e]
  rw [if_pos hq.1, if_pos (by rw [az_cs]; exact hq.2.1)]
  by_cases hlt : x < y
  · rw [if_pos ((az_lt hx hy).mpr hlt), if_pos hlt]
  · rw [if_neg (fun w => hlt ((az_lt hx hy).mp w)), if_neg hlt]
theorem az_min {ix : Nat} {x y : Int} {q : Nat × Nat} {len : Nat} (pc2 : Nat) (hf : am_find pc (am_c mt) = some (.invokestatic ix, len)) (hb : am_find ix (am_bT (am_own mt)) = some q) (hq : q.1 = 1 ∧ st.length ≤ 8 ∧ pc + len = pc2) (hx : az_in x) (hy : az_in y) (H : az_R d mt pc2 lv (.inl (if y < x then y else x) :: st) s Q) : az_R d mt pc lv (.inl y :: .inl x :: st) s Q := by
  refine az_step (fun n L xs tx htx e gl gd => ?_) H
  rw [← hq.2.2]
  refine am_1h hf rfl ?_
  simp only [am_heap, hb, List.map_cons, az_e]
  rw [if_neg (by rw [hq.1]; decide), if_pos hq.1, if_pos (by rw [az_cs]; exact hq.2.1)]
  by_cases hlt : y < x
  · rw [if_pos ((az_lt hy hx).mpr hlt), if_pos hlt]
  · rw [if_neg (fun w => hlt ((az_lt hy hx).mp w)), if_neg hlt]
theorem az_cpy_G (s : az_S) (a a0 sp dp n : Nat) : az_G (am_ur s a (va_cpy (s a0) (s a) sp dp n)) = am_ur (az_G s) a (va_cpy (az_G s a0) (az_G s a) sp dp n) := by
  funext i j
  unfold az_G am_ur va_cpy
  split
  · split <;> rfl
  · rfl
theorem az_cpy {ix a a0 n0 n1 : Nat} {sp dp n : Int} {q : Nat × Nat} {len : Nat} (pc2 : Nat) (hf : am_find pc (am_c mt) = some (.invokestatic ix, len)) (hb : am_find ix (am_bT (am_own mt)) = some q) (hq : q.1 = 2 ∧ st.length ≤ 8 ∧ pc + len = pc2 ∧ n0 < 2147483648 ∧ n1 < 2147483648) (hk0 : az_K[a0]? = some (.inl (0, n0))) (hk : az_K[a]? = some (.inl (0, n1))) (hz : 0 ≤ sp ∧ 0 ≤ dp ∧ 0 ≤ n ∧ sp + n ≤ n0 ∧ dp + n ≤ n1) (H : az_R d mt pc2 lv st (am_ur s a (va_cpy (s a0) (s a) sp.toNat dp.toNat n.toNat)) Q) : az_R d mt pc lv (.inl n :: .inl dp :: .inr (.inl a) :: .inl sp :: .inr (.inl a0) :: st) s Q := by
  obtain ⟨z1, z2, z3, z4, z5⟩ := hz
  obtain ⟨q1, q2, q3, q4, q5⟩ := hq
  refine az_step (fun n L xs tx htx e gl gd => ?_) H
  rw [← q3]
  refine am_1h hf rfl ?_
  have e1 : ∀ w : Int, 0 ≤ w → w < 2147483648 → (Int32.ofInt w).toNatClampNeg = w.toNat := fun w h1 h2 => Int32.toNatClampNeg_ofInt_of_le (by omega) (by omega)
  have e2 : ∀ w : Int, 0 ≤ w → w < 2147483648 → ¬ Int32.ofInt w < 0 := fun w h1 h2 h3 => by
    rw [Int32.lt_iff_toInt_lt, az_toInt ⟨by omega, by omega⟩] at h3
    have h0 : (0 : Int32).toInt = 0 := by decide
    rw [h0] at h3
    omega
  simp only [am_heap, hb, List.map_cons, az_e, az_Ke (e := e) hk0, az_Ke (e := e) hk]
  rw [if_neg (by rw [q1]; decide), if_neg (by rw [q1]; decide), if_pos q1]
  rw [if_pos ⟨⟨by rw [az_cs]; exact q2, trivial, trivial⟩, e2 _ z1 (by omega), e2 _ z2 (by omega), e2 _ z3 (by omega), by rw [e1 _ z1 (by omega), e1 _ z3 (by omega)]; omega, by rw [e1 _ z2 (by omega), e1 _ z3 (by omega)]; omega⟩]
  rw [e1 _ z1 (by omega), e1 _ z2 (by omega), e1 _ z3 (by omega), az_cpy_G]
theorem az_len {ix i : Nat} {q : Nat × Nat} {ty : String} {len : Nat} (pc2 : Nat) (hf : am_find pc (am_c mt) = some (.invokevirtual ix, len)) (hb : am_find ix (am_bT (am_own mt)) = some q) (hq : q.1 = 4 ∧ st.length ≤ 8 ∧ pc + len = pc2) (ht : am_sx[i]? = some ty) (H : az_R d mt pc2 lv (.inl ty.length :: st) s Q) : az_R d mt pc lv (.inr (.inr (i + 1)) :: st) s Q := by
  refine az_step (fun n L xs tx htx e gl gd => ?_) H
  rw [← hq.2.2]
  refine am_1h hf rfl ?_
  simp only [am_heap, hb, List.map_cons, az_e]
  rw [if_pos hq.1]
  simp only [htx i ty ht]
  rw [if_pos (by rw [az_cs]; exact hq.2.1), Int32.ofInt_eq_ofNat]
theorem az_chr {ix i : Nat} {q : Nat × Nat} {ty : String} {ch : Char} {z : Int} {len : Nat} (pc2 : Nat) (hf : am_find pc (am_c mt) = some (.invokevirtual ix, len)) (hb : am_find ix (am_bT (am_own mt)) = some q) (hq : q.1 = 5 ∧ st.length ≤ 8 ∧ pc + len = pc2) (ht : am_sx[i]? = some ty) (hz : 0 ≤ z ∧ z < ty.length ∧ ty.length < 2147483648) (hch : ty.toList[z.toNat]? = some ch) (H : az_R d mt pc2 lv (.inl ch.toNat :: st) s Q) : az_R d mt pc lv (.inl z :: .inr (.inr (i + 1)) :: st) s Q := by
  refine az_step (fun n L xs tx htx e gl gd => ?_) H
  rw [← hq.2.2]
  refine am_1h hf rfl ?_
  obtain ⟨e1, e2⟩ := az_idx hz
  simp only [am_heap, hb, List.map_cons, az_e]
  rw [if_neg (by rw [hq.1]; decide), if_pos hq.1]
  simp only [htx i ty ht, e1, hch]
  rw [if_pos ⟨by rw [az_cs]; exact hq.2.1, e2⟩, Int32.ofInt_eq_ofNat]
def az_ini (n : Nat) (as : List az_V) : az_L := as.map some ++ List.replicate (n - as.length) none
theorem az_ini_ok (n : Nat) (as : List az_V) : az_el (az_ini n as) = am_ini n (as.map az_e) := by
  unfold az_el az_ini am_ini
  rw [List.map_append, List.map_map, List.map_map, List.map_replicate, List.length_map]
  rfl
/-- a call: callee, arguments, the rest of the stack -/
def az_call (mt : am_M1) (ins : Instr) (st : List az_V) : Option (am_M1 × List az_V × List az_V) := match ins with
  | .invokevirtual ix => match am_inv (am_own mt) ix with
    | some q => match (st.drop (am_np q.2)) with
      | .inr (.inl i) :: rest => match az_K[i]? with
        | some (.inr (cj, _)) => if (q.1 = 0 ∧ cj = am_own q.2) ∧ ((st.take (am_np q.2)).length = am_np q.2 ∧ rest.length ≤ 8 ∧ am_find ix (am_bT (am_own mt)) = none) then some (q.2, .inr (.inl i) :: (st.take (am_np q.2)).reverse, rest) else none
        | _ => none
      | _ => none
    | none => none
  | .invokestatic ix => match am_inv (am_own mt) ix with
    | some q => if (q.1 = 1 ∨ q.1 = 3) ∧ ((st.take (am_np q.2)).length = am_np q.2 ∧ (st.drop (am_np q.2)).length ≤ 8 ∧ am_find ix (am_bT (am_own mt)) = none) then some (q.2, (st.take (am_np q.2)).reverse, st.drop (am_np q.2)) else none
    | none => none
  | _ => none
theorem az_call_ok {ins : Instr} {m2 : am_M1} {as rest : List az_V} (h : az_call mt ins st = some (m2, as, rest)) (len pc : Nat) (L : Nat) (xs : Nat → Int32) (tx : Nat → Option String) (e : List Nat) (gl : Nat → Nat → Int64) (gd : Nat → Nat → UInt64) (lv : am_L) :
    am_simple ins len pc lv (st.map az_e) = none ∧ am_heap L xs tx mt ins (st.map az_e) (az_KE e, az_G s, gl, gd) false = none ∧ am_call mt ins (st.map az_e) (az_KE e, az_G s, gl, gd) = some (m2, as.map az_e, rest.map az_e) := by
  unfold az_call at h
  split at h
  · next ix =>
    split at h
    next q hq =>
      split at h
      next i rest2 hdr =>
        split at h
        next cj fs hk0 =>
          have hk := az_Ke (e := e) hk0
          split at h
          next hc =>
            cases h
            refine ⟨rfl, ?_, ?_⟩
            · simp only [am_heap, hc.2.2.2]
            · simp only [am_call, hq, ← List.map_drop, ← List.map_take, hdr, List.map_cons, az_e, hk]
              rw [if_pos ⟨hc.1, by rw [List.length_map]; exact hc.2.1, by rw [az_cs]; exact hc.2.2.1, by rw [az_cs]; exact hc.2.1⟩, List.map_reverse]
          next => cases h
        next => cases h
      next => cases h
    next => cases h
  · next ix =>
    split at h
    next q hq =>
      split at h
      next hc =>
        cases h
        refine ⟨rfl, ?_, ?_⟩
        · simp only [am_heap, hc.2.2.2]
        · simp only [am_call, hq, ← List.map_drop, ← List.map_take]
          rw [if_pos ⟨hc.1, by rw [List.length_map]; exact hc.2.1, by rw [az_cs]; exact hc.2.2.1, by rw [az_cs]; exact hc.2.1⟩, List.map_reverse]
      next => cases h
    next => cases h
  · cases h
theorem am_1c {L : Nat} {xs : Nat → Int32} {tx : Nat → Option String} {n d : Nat} {mt m2 : am_M1} {pc : Nat} {lv : am_L} {st as rest : List Value} {h h2 : am_H} {ins : Instr} {len : Nat} {v : Option Value} (hf : am_find pc (am_c mt) = some (ins, len)) (h1 : am_simple ins len pc lv st = none) (hh : am_heap L xs tx mt ins st h false = none) (hc : am_call mt ins st h = some (m2, as, rest)) (hr : am_run L xs n tx d m2 0 (am_ini (am_mL m2) as) [] h false = some (.inl v, h2, false, 0, 0)) : am_run L xs (n + 1) tx (d + 1) mt pc lv st h false = am_run L xs n tx (d + 1) mt (pc + len) lv (v.toList ++ rest) h2 false := by
  conv => lhs; unfold am_run
  rw [hf]
  dsimp only
  rw [h1]
  dsimp only
  rw [hh]
  dsimp only
  rw [hc]
  dsimp only
  rw [hr]
  dsimp only
  rw [am_add0, Option.map_id]
  rfl
theorem am_1t {L : Nat} {xs : Nat → Int32} {tx : Nat → Option String} {n d : Nat} {mt m2 : am_M1} {pc : Nat} {lv : am_L} {st as rest : List Value} {h h2 : am_H} {ins : Instr} {len E c k : Nat} (hf : am_find pc (am_c mt) = some (ins, len)) (h1 : am_simple ins len pc lv st = none) (hh : am_heap L xs tx mt ins st h false = none) (hc : am_call mt ins st h = some (m2, as, rest)) (hr : am_run L xs n tx d m2 0 (am_ini (am_mL m2) as) [] h false = some (.inr E, h2, false, c, k)) (ht : am_hh mt = []) : am_run L xs (n + 1) tx (d + 1) mt pc lv st h false = some (.inr E, h2, false, c, k) := by
  conv => lhs; unfold am_run
  rw [hf]
  dsimp only
  rw [h1]
  dsimp only
  rw [hh]
  dsimp only
  rw [hc]
  dsimp only
  rw [hr]
  dsimp only
  rw [ht]
  rfl
/-- a call of a method of which Q2 is known -/
theorem az_cl {Q2 : az_O → az_S → Prop} {ins : Instr} {len : Nat} {m2 : am_M1} {as rest : List az_V} (pc2 : Nat) (hf : am_find pc (am_c mt) = some (ins, len)) (hc : az_call mt ins st = some (m2, as, rest)) (hh : am_hh mt = [] ∧ pc + len = pc2) (hd : 0 < d) (H : az_R (d - 1) m2 0 (az_ini (am_mL m2) as) [] s Q2) (H1 : ∀ v t, Q2 (.inl v) t → az_R d mt pc2 lv (v.toList ++ rest) t Q) (H2 : ∀ E t, Q2 (.inr E) t → Q (.inr E) t) : az_R d mt pc lv st s Q := by
  obtain ⟨d, rfl⟩ : ∃ e, d = e + 1 := ⟨d - 1, by omega⟩
  rw [Nat.add_sub_cancel] at H
  intro L xs tx htx e gl gd
  obtain ⟨n1, o, t, h1, h2⟩ := H L xs tx htx e gl gd
  obtain ⟨c1, c2, c3⟩ := az_call_ok (s := s) hc len pc L xs tx e gl gd (az_el lv)
  rw [az_ini_ok] at h1
  cases o with
  | inl v =>
    obtain ⟨n2, o2, t2, h3, h4⟩ := H1 v t h2 L xs tx htx e gl gd
    refine ⟨max n1 n2 + 1, o2, t2, ?_, h4⟩
    have h1' := am_mono n1 (max n1 n2) _ _ _ _ _ _ _ _ _ _ (Nat.le_max_left _ _) (Nat.le_refl _) h1
    have h3' := am_mono n2 (max n1 n2) _ _ _ _ _ _ _ _ _ _ (Nat.le_max_right _ _) (Nat.le_refl _) h3
    rw [am_1c hf c1 c2 c3 h1', hh.2, ← h3']
    congr 1
    cases v <;> rfl
  | inr E =>
    exact ⟨n1 + 1, .inr E, t, am_1t hf c1 c2 c3 h1 hh.1, H2 E t h2⟩
abbrev az_ret (v : Option az_V) (t : az_S) : az_O → az_S → Prop := fun o u => o = .inl v ∧ u = t
/-- a call whose answer is known -/
theorem az_clv {ins : Instr} {len : Nat} {m2 : am_M1} {as rest : List az_V} {v : Option az_V} {t : az_S} (pc2 : Nat) (hf : am_find pc (am_c mt) = some (ins, len)) (hc : az_call mt ins st = some (m2, as, rest)) (hh : am_hh mt = [] ∧ pc + len = pc2) (hd : 0 < d) (H : az_R (d - 1) m2 0 (az_ini (am_mL m2) as) [] s (az_ret v t)) (H1 : az_R d mt pc2 lv (v.toList ++ rest) t Q) : az_R d mt pc lv st s Q :=
  az_cl pc2 hf hc hh hd H (fun v2 t2 h => by cases h.1; cases h.2; exact H1) (fun E t h => by cases h.1)
theorem az_end {ins : Instr} {len : Nat} {v : Option az_V} (hf : am_find pc (am_c mt) = some (ins, len)) (h1 : ∀ L2 S2, am_simple ins len pc L2 S2 = none) (hh : ∀ L xs tx e gl gd, am_heap L xs tx mt ins (st.map az_e) (az_KE e, az_G s, gl, gd) false = none) (hc : ∀ S2 h2, am_call mt ins S2 h2 = none) (hr : am_ret (am_rt mt) ins (st.map az_e) = some (v.map az_e)) (hQ : Q (.inl v) s) : az_R d mt pc lv st s Q := by
  intro L xs tx htx e gl gd
  refine ⟨1, .inl v, s, ?_, hQ⟩
  unfold am_run
  rw [hf]
  dsimp only
  rw [h1]
  dsimp only
  rw [hh]
  dsimp only
  rw [hc]
  dsimp only
  rw [hr]
  rfl
theorem az_retI {x : Int} {len : Nat} (hf : am_find pc (am_c mt) = some (.ireturn, len)) (hr : am_rt mt = some .int) (hQ : Q (.inl (some (.inl x))) s) : az_R d mt pc lv [.inl x] s Q :=
  az_end (v := some (.inl x)) hf (fun _ _ => rfl) (fun _ _ _ _ _ _ => rfl) (fun _ _ => rfl) (by
    rw [hr]
    show (if narrow .int (.int (Int32.ofInt x)) = .int (Int32.ofInt x) then _ else _) = _
    rw [if_pos (show narrow .int (.int (Int32.ofInt x)) = .int (Int32.ofInt x) from rfl)]
    rfl) hQ
theorem az_retB {x : Int} {len : Nat} (hf : am_find pc (am_c mt) = some (.ireturn, len)) (hr : am_rt mt = some .boolean) (hx : x = 0 ∨ x = 1) (hQ : Q (.inl (some (.inl x))) s) : az_R d mt pc lv [.inl x] s Q :=
  az_end (v := some (.inl x)) hf (fun _ _ => rfl) (fun _ _ _ _ _ _ => rfl) (fun _ _ => rfl) (by
    rw [hr]
    rcases hx with rfl | rfl <;> rfl) hQ
theorem az_retP {p : Prop} [Decidable p] {len : Nat} (hf : am_find pc (am_c mt) = some (.ireturn, len)) (hr : am_rt mt = some .boolean) (hQ : Q (.inl (some (.inl (az_b p)))) s) : az_R d mt pc lv [.inl (az_b p)] s Q :=
  az_retB hf hr (by
    unfold az_b
    split
    · exact Or.inr rfl
    · exact Or.inl rfl) hQ
theorem az_retC {x : Int} {len : Nat} (hf : am_find pc (am_c mt) = some (.ireturn, len)) (hr : am_rt mt = some .char) (hx : 0 ≤ x ∧ x < 65536) (hQ : Q (.inl (some (.inl x))) s) : az_R d mt pc lv [.inl x] s Q := by
  refine az_end (v := some (.inl x)) hf (fun _ _ => rfl) (fun _ _ _ _ _ _ => rfl) (fun _ _ => rfl) ?_ hQ
  have e1 : narrow .char (.int (Int32.ofInt x)) = .int (Int32.ofInt x) := by
    show Value.int ((Int32.ofInt x).toUInt32 % 65536).toInt32 = _
    rw [az_i2c, Int.emod_eq_of_lt hx.1 hx.2]
  rw [hr]
  show (if narrow .char (.int (Int32.ofInt x)) = .int (Int32.ofInt x) then _ else _) = _
  rw [if_pos e1]
  rfl
theorem az_retA {i : Nat} {nm : String} {len : Nat} (hf : am_find pc (am_c mt) = some (.areturn, len)) (hr : am_rt mt = some (.object nm)) (hQ : Q (.inl (some (.inr (.inl i)))) s) : az_R d mt pc lv [.inr (.inl i)] s Q :=
  az_end (v := some (.inr (.inl i))) hf (fun _ _ => rfl) (fun _ _ _ _ _ _ => rfl) (fun _ _ => rfl) (by rw [hr]; rfl) hQ
theorem az_retX {i : Nat} {nm : String} {len : Nat} (hf : am_find pc (am_c mt) = some (.areturn, len)) (hr : am_rt mt = some (.object nm)) (hQ : Q (.inl (some (.inr (.inr i)))) s) : az_R d mt pc lv [.inr (.inr i)] s Q :=
  az_end (v := some (.inr (.inr i))) hf (fun _ _ => rfl) (fun _ _ _ _ _ _ => rfl) (fun _ _ => rfl) (by rw [hr]; rfl) hQ
theorem az_ret0 {len : Nat} (hf : am_find pc (am_c mt) = some (.return_, len)) (hr : am_rt mt = none) (hQ : Q (.inl none) s) : az_R d mt pc lv [] s Q :=
  az_end (v := none) hf (fun _ _ => rfl) (fun _ _ _ _ _ _ => rfl) (fun _ _ => rfl) (by rw [hr]; rfl) hQ
theorem az_thr {ix E len : Nat} (hf : am_find pc (am_c mt) = some (.new ix, len)) (hn : am_find ix (am_nT (am_own mt)) = none) (ht : am_thr mt (.new ix) pc (st.map az_e) = some E) (hQ : Q (.inr E) s) : az_R d mt pc lv st s Q := by
  intro L xs tx htx e gl gd
  refine ⟨1, .inr E, s, ?_, hQ⟩
  unfold am_run
  rw [hf]
  dsimp only
  have e1 : am_simple (.new ix) len pc (az_el lv) (st.map az_e) = none := rfl
  have e2 : am_heap L xs tx mt (.new ix) (st.map az_e) (az_KE e, az_G s, gl, gd) false = none := by simp only [am_heap, hn]
  have e3 : am_call mt (.new ix) (st.map az_e) (az_KE e, az_G s, gl, gd) = none := rfl
  have e4 : am_ret (am_rt mt) (.new ix) (st.map az_e) = none := rfl
  rw [e1]
  dsimp only
  rw [e2]
  dsimp only
  rw [e3]
  dsimp only
  rw [e4]
  dsimp only
  rw [ht]
  rfl
end AZR
