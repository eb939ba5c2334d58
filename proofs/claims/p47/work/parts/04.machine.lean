/-! A SMALL MACHINE of our own, a function: the class's and the reference's methods over a heap whose shape is a list and whose numbers are functions. What it answers the JVM answers (04.sim); what it answers is reckoned in the parts behind. -/
/-- a cell: a row (kind: 0 int, 1 long, 2 double; length), or an object (class, fields: none for an int that is kept in the numbers) -/
abbrev am_E : Type := (Nat × Nat) ⊕ (Nat × List (Option Value))
/-- the heap: shape, ints, longs, doubles -/
abbrev am_H : Type := List am_E × (Nat → Nat → Int32) × (Nat → Nat → Int64) × (Nat → Nat → UInt64)
abbrev am_L : Type := List (Option Value)
/-- returned (the value) or thrown (which class); the heap; may cells still be made; cells and slots that were made -/
abbrev am_R : Type := (Option Value ⊕ Nat) × am_H × Bool × Nat × Nat
def am_up {α : Type} (g : Nat → Nat → α) (i j : Nat) (v : α) : Nat → Nat → α := fun a b => if a = i then (if b = j then v else g a b) else g a b
def am_ur {α : Type} (g : Nat → Nat → α) (i : Nat) (f : Nat → α) : Nat → Nat → α := fun a b => if a = i then f b else g a b
def am_ld (lv : am_L) (i : Nat) : Option Value := match lv[i]? with
  | some o => o
  | none => none
def am_dk (o : Option Value) : Option Value := match o with
  | some v => if v.category = 2 then none else some v
  | none => none
def am_sto : am_L → Nat → Value → am_L
  | [], _, _ => []
  | _ :: l, 0, v => some v :: (if v.category = 2 then (match l with
      | [] => []
      | _ :: l2 => none :: l2) else l)
  | o :: l, 1, v => am_dk o :: am_sto l 0 v
  | o :: l, i + 2, v => o :: am_sto l (i + 1) v
def am_ini (n : Nat) (as : List Value) : am_L := as.map some ++ List.replicate (n - as.length) none
def am_tgt (pc : Nat) (off : Int) : Nat := ((pc : Int) + off).toNat
def am_cond (c : Jvm.ClassFile.Cond) (x y : Int32) : Bool := match c with
  | .eq => decide (x = y)
  | .ne => decide (¬ x = y)
  | .lt => decide (x < y)
  | .ge => decide (y ≤ x)
  | .gt => decide (y < x)
  | .le => decide (x ≤ y)
def am_br (b : Bool) (pc : Nat) (off : Int) (lv : am_L) (st : List Value) : Option (Nat × am_L × List Value) :=
  if 0 ≤ (pc : Int) + off then some (if b then am_tgt pc off else pc + 3, lv, st) else none
def am_lod (lv : am_L) (i : Nat) (p : Value → Bool) (pc len : Nat) (st : List Value) : Option (Nat × am_L × List Value) := match am_ld lv i with
  | some v => if p v then some (pc + len, lv, v :: st) else none
  | none => none
def am_isI : Value → Bool
  | .int _ => true
  | _ => false
/-- a reference: into the heap (ref), or to something outside of it (retAddr: 0 the script, i + 1 a String constant) -/
def am_isA : Value → Bool
  | .ref _ => true
  | .retAddr _ => true
  | _ => false
def am_isF : Value → Bool
  | .float _ => true
  | _ => false
def am_isD : Value → Bool
  | .double _ => true
  | _ => false
def am_stv (lv : am_L) (i : Nat) (p : Value → Bool) (pc len : Nat) (st : List Value) : Option (Nat × am_L × List Value) := match st with
  | v :: st => if p v && decide (i < lv.length) then some (pc + len, am_sto lv i v, st) else none
  | [] => none
def am_stw (lv : am_L) (i : Nat) (p : Value → Bool) (pc len : Nat) (st : List Value) : Option (Nat × am_L × List Value) := match st with
  | v :: st => if p v && decide (i + 1 < lv.length) then some (pc + len, am_sto lv i v, st) else none
  | [] => none
/-- instructions that touch locals and stack alone -/
def am_simple (ins : Instr) (len pc : Nat) (lv : am_L) (st : List Value) : Option (Nat × am_L × List Value) := match ins with
  | .iload i => am_lod lv i am_isI pc len st
  | .iload_n i => am_lod lv i am_isI pc len st
  | .aload i => am_lod lv i am_isA pc len st
  | .aload_n i => am_lod lv i am_isA pc len st
  | .fload i => am_lod lv i am_isF pc len st
  | .fload_n i => am_lod lv i am_isF pc len st
  | .dload i => am_lod lv i am_isD pc len st
  | .dload_n i => am_lod lv i am_isD pc len st
  | .istore i => am_stv lv i am_isI pc len st
  | .istore_n i => am_stv lv i am_isI pc len st
  | .astore i => am_stv lv i am_isA pc len st
  | .astore_n i => am_stv lv i am_isA pc len st
  | .fstore i => am_stv lv i am_isF pc len st
  | .dstore i => am_stw lv i am_isD pc len st
  | .dstore_n i => am_stw lv i am_isD pc len st
  | .iconst k => some (pc + len, lv, .int (Int32.ofInt k) :: st)
  | .bipush k => some (pc + len, lv, .int (Int8.ofInt k).toInt32 :: st)
  | .sipush k => some (pc + len, lv, .int (Int16.ofInt k).toInt32 :: st)
  | .fconst k => if k = 0 then some (pc + len, lv, .float 0 :: st) else none
  | .dconst k => if k = 0 then some (pc + len, lv, .double 0 :: st) else none
  | .iinc i k => match am_ld lv i with
    | some (.int x) => if i < lv.length then some (pc + len, am_sto lv i (.int (x + Int32.ofInt k)), st) else none
    | _ => none
  | .iadd => match st with
    | .int y :: .int x :: st => some (pc + len, lv, .int (x + y) :: st)
    | _ => none
  | .isub => match st with
    | .int y :: .int x :: st => some (pc + len, lv, .int (x - y) :: st)
    | _ => none
  | .imul => match st with
    | .int y :: .int x :: st => some (pc + len, lv, .int (x * y) :: st)
    | _ => none
  | .iand => match st with
    | .int y :: .int x :: st => some (pc + len, lv, .int (x &&& y) :: st)
    | _ => none
  | .ineg => match st with
    | .int x :: st => some (pc + len, lv, .int (-x) :: st)
    | _ => none
  | .idiv => match st with
    | .int y :: .int x :: st => if y = 0 then none else some (pc + len, lv, .int (x / y) :: st)
    | _ => none
  | .irem => match st with
    | .int y :: .int x :: st => if y = 0 then none else some (pc + len, lv, .int (x - x / y * y) :: st)
    | _ => none
  | .ixor => match st with
    | .int y :: .int x :: st => some (pc + len, lv, .int (x ^^^ y) :: st)
    | _ => none
  | .iushr => match st with
    | .int y :: .int x :: st => some (pc + len, lv, .int (x.toUInt32 >>> (y.toUInt32 &&& Int32.toUInt32 31)).toInt32 :: st)
    | _ => none
  | .ifnull _ => match st with
    | .ref _ :: st => some (pc + 3, lv, st)
    | _ => none
  | .i2l => match st with
    | .int x :: st => some (pc + len, lv, .long x.toInt64 :: st)
    | _ => none
  | .i2c => match st with
    | .int x :: st => some (pc + len, lv, .int (x.toUInt32 % 65536).toInt32 :: st)
    | _ => none
  | .i2f => match st with
    | .int x :: st => some (pc + len, lv, .float (FP.i2f x) :: st)
    | _ => none
  | .i2d => match st with
    | .int x :: st => some (pc + len, lv, .double (FP.i2d x) :: st)
    | _ => none
  | .f2d => match st with
    | .float x :: st => if (FP.f2d x) &&& 0x7fffffffffffffff ≤ 0x7ff0000000000000 then some (pc + len, lv, .double (FP.f2d x) :: st) else none
    | _ => none
  | .fdiv => match st with
    | .float y :: .float x :: st => if (FP.fdiv x y) &&& 0x7fffffff ≤ 0x7f800000 then some (pc + len, lv, .float (FP.fdiv x y) :: st) else none
    | _ => none
  | .ddiv => match st with
    | .double y :: .double x :: st => if (FP.ddiv x y) &&& 0x7fffffffffffffff ≤ 0x7ff0000000000000 then some (pc + len, lv, .double (FP.ddiv x y) :: st) else none
    | _ => none
  | .lcmp => match st with
    | .long y :: .long x :: st => some (pc + len, lv, .int (lg_cmp x y) :: st)
    | _ => none
  | .dcmp op => match st with
    | .double y :: .double x :: st => some (pc + len, lv, .int (Op.cmpValue (FP.dcmp x y) op) :: st)
    | _ => none
  | .fcmp op => match st with
    | .float y :: .float x :: st => some (pc + len, lv, .int (Op.cmpValue (FP.fcmp x y) op) :: st)
    | _ => none
  | .dup => match st with
    | v :: st => if v.category = 1 then some (pc + len, lv, v :: v :: st) else none
    | _ => none
  | .dup2 => match st with
    | v :: w :: st => if v.category = 1 then (if w.category = 1 then some (pc + len, lv, v :: w :: v :: w :: st) else none) else none
    | _ => none
  | .pop => match st with
    | v :: st => if v.category = 1 then some (pc + len, lv, st) else none
    | _ => none
  | .goto off => if 0 ≤ (pc : Int) + off then some (am_tgt pc off, lv, st) else none
  | .ifCond c off => match st with
    | .int x :: st => am_br (am_cond c x 0) pc off lv st
    | _ => none
  | .if_icmp c off => match st with
    | .int y :: .int x :: st => am_br (am_cond c x y) pc off lv st
    | _ => none
  | .tableswitch df lo hi offs => match st with
    | .int x :: st =>
      if x.toInt < lo ∨ hi < x.toInt then (if 0 ≤ (pc : Int) + df then some (am_tgt pc df, lv, st) else none) else (match offs[(x.toInt - lo).toNat]? with
        | some off => if 0 ≤ (pc : Int) + off then some (am_tgt pc off, lv, st) else none
        | none => none)
    | _ => none
  | _ => none
/-- what a field of a type may be given -/
def am_nar (ty : FieldType) (v : Value) : Bool := match ty, v with
  | .int, .int _ => true
  | .boolean, .int x => decide (x = 0) || decide (x = 1)
  | .object _, .ref _ => true
  | .array _, .ref _ => true
  | _, _ => false
/-- what a method may return -/
def am_ret (ty : Option FieldType) (ins : Instr) (st : List Value) : Option (Option Value) := match ins with
  | .return_ => match st with
    | [] => match ty with
      | none => some none
      | some _ => none
    | _ => none
  | .ireturn => match st with
    | [.int x] => match ty with
      | some t => if narrow t (.int x) = .int x then some (some (.int x)) else none
      | none => none
    | _ => none
  | .areturn => match st with
    | [.ref a] => match ty with
      | some (.object _) => some (some (.ref a))
      | some (.array _) => some (some (.ref a))
      | _ => none
    | [.retAddr a] => match ty with
      | some (.object _) => some (some (.retAddr a))
      | _ => none
    | _ => none
  | .freturn => match st with
    | [.float x] => match ty with
      | some .float => some (some (.float x))
      | _ => none
    | _ => none
  | .dreturn => match st with
    | [.double x] => match ty with
      | some .double => some (some (.double x))
      | _ => none
    | _ => none
  | _ => none
def am_in (i : Int32) (n : Nat) : Bool := decide (¬ (i < 0 ∨ n ≤ i.toNatClampNeg))
def am_cs (l : List Value) : Nat := (l.map fun v => v.category).sum
/-- instructions that touch the heap: stack and heap behind it, may cells still be made, cells and slots that come -/
def am_heap (L : Nat) (xs : Nat → Int32) (tx : Nat → Option String) (mt : am_M1) (ins : Instr) (st : List Value) (h : am_H) (ph : Bool) : Option (List Value × am_H × Bool × Nat × Nat) := match ins with
  | .getfield ix => match st with
    | .ref i :: st => match am_fld (am_own mt) ix with
      | some q => match h.1[i]? with
        | some (.inr (cj, fs)) => if cj = q.1 then (match fs[q.2]? with
          | some none => some (.int (h.2.1 i q.2) :: st, h, ph, 0, 0)
          | some (some v) => if v.category = 1 then some (v :: st, h, ph, 0, 0) else none
          | none => none) else none
        | _ => none
      | none => none
    | _ => none
  | .putfield ix => match st with
    | v :: .ref i :: st => match am_find ix (am_fT (am_own mt)) with
      | some q => match h.1[i]? with
        | some (.inr (cj, fs)) => if cj = q.1 ∧ (am_nar (am_tX q.1 q.2.1) v = true ∧ ((am_TX q.1 q.2.1).2.2.2 = false ∨ ((am_y mt).name = "<init>" ∧ am_own mt = q.1))) then (match fs[q.2.1]? with
          | some none => (match v with
            | .int x => some (st, (h.1, am_up h.2.1 i q.2.1 x, h.2.2), ph, 0, 0)
            | _ => none)
          | some (some _) => (match v with
            | .ref a => some (st, (h.1.set i (.inr (cj, fs.set q.2.1 (some (.ref a)))), h.2), ph, 0, 0)
            | _ => none)
          | none => none) else none
        | _ => none
      | none => none
    | _ => none
  | .iaload => match st with
    | .int j :: .ref i :: st => match h.1[i]? with
      | some (.inl (k, n)) => if k = 0 ∧ am_in j n = true then some (.int (h.2.1 i j.toNatClampNeg) :: st, h, ph, 0, 0) else none
      | _ => none
    | .int j :: .retAddr i :: st => if i = 0 ∧ am_in j L = true then some (.int (xs j.toNatClampNeg) :: st, h, ph, 0, 0) else none
    | _ => none
  | .iastore => match st with
    | .int x :: .int j :: .ref i :: st => match h.1[i]? with
      | some (.inl (k, n)) => if k = 0 ∧ am_in j n = true then some (st, (h.1, am_up h.2.1 i j.toNatClampNeg x, h.2.2), ph, 0, 0) else none
      | _ => none
    | _ => none
  | .arraylength => match st with
    | .ref i :: st => match h.1[i]? with
      | some (.inl (k, n)) => if k = 0 then some (.int (Int32.ofNat n) :: st, h, ph, 0, 0) else none
      | _ => none
    | .retAddr i :: st => if i = 0 then some (.int (Int32.ofNat L) :: st, h, ph, 0, 0) else none
    | _ => none
  | .new ix => match am_find ix (am_nT (am_own mt)) with
    | some q => some (.ref h.1.length :: st, (h.1 ++ [.inr (q.1, am_df q.1)], am_ur h.2.1 h.1.length (fun _ => 0), h.2.2), ph, 1, am_N q.1)
    | none => none
  | .newarray ty => match st with
    | .int c :: st => if ¬ c < 0 ∧ c.toNatClampNeg ≤ 60000000 then (match ty with
      | .int => some (.ref h.1.length :: st, (h.1 ++ [.inl (0, c.toNatClampNeg)], am_ur h.2.1 h.1.length (fun _ => 0), h.2.2), ph, 1, c.toNatClampNeg)
      | _ => none) else none
    | _ => none
  | .ldc ix => match am_find ix (am_kT (am_own mt)) with
    | some q => some (.int q.1 :: st, h, ph, 0, 0)
    | none => match am_find ix (am_sT (am_own mt)) with
      | some i => some (.retAddr (i + 1) :: st, h, ph, 0, 0)
      | none => none
  | .ldc_w ix => match am_find ix (am_kT (am_own mt)) with
    | some q => some (.int q.1 :: st, h, ph, 0, 0)
    | none => match am_find ix (am_sT (am_own mt)) with
      | some i => some (.retAddr (i + 1) :: st, h, ph, 0, 0)
      | none => none
  | .invokestatic ix => match am_find ix (am_bT (am_own mt)) with
    | some q =>
      if q.1 = 0 then (match st with
        | .int y :: .int x :: st => if am_cs st ≤ 8 then some (.int (if x < y then y else x) :: st, h, ph, 0, 0) else none
        | _ => none)
      else if q.1 = 1 then (match st with
        | .int y :: .int x :: st => if am_cs st ≤ 8 then some (.int (if y < x then y else x) :: st, h, ph, 0, 0) else none
        | _ => none)
      else if q.1 = 2 then (match st with
        | .int n :: .int dp :: .ref a :: .int sp :: .ref a0 :: st => match h.1[a0]? with
          | some (.inl (k0, n0)) => match h.1[a]? with
            | some (.inl (k1, n1)) =>
              if (am_cs st ≤ 8 ∧ k0 = 0 ∧ k1 = 0) ∧ (¬ sp < 0 ∧ ¬ dp < 0 ∧ ¬ n < 0 ∧ sp.toNatClampNeg + n.toNatClampNeg ≤ n0 ∧ dp.toNatClampNeg + n.toNatClampNeg ≤ n1) then
                some (st, (h.1, am_ur h.2.1 a (va_cpy (h.2.1 a0) (h.2.1 a) sp.toNatClampNeg dp.toNatClampNeg n.toNatClampNeg), h.2.2), ph, 0, 0) else none
            | _ => none
          | _ => none
        | _ => none)
      else none
    | none => none
  | .invokespecial ix => match st with
    | .ref i :: st => match am_find ix (am_bT (am_own mt)) with
      | some q => if q.1 = 3 ∧ am_cs st ≤ 8 then some (st, h, ph, 0, 0) else none
      | none => none
    | _ => none
  | .invokevirtual ix => match am_find ix (am_bT (am_own mt)) with
    | some q =>
      if q.1 = 4 then (match st with
        | .retAddr (i + 1) :: st => match tx i with
          | some tx => if am_cs st ≤ 8 then some (.int (Int32.ofNat tx.length) :: st, h, ph, 0, 0) else none
          | none => none
        | _ => none)
      else if q.1 = 5 then (match st with
        | .int j :: .retAddr (i + 1) :: st => match tx i with
          | some tx => match tx.toList[j.toNatClampNeg]? with
            | some ch => if am_cs st ≤ 8 ∧ am_in j tx.length = true then some (.int (Int32.ofNat ch.toNat) :: st, h, ph, 0, 0) else none
            | none => none
          | none => none
        | _ => none)
      else none
    | none => none
  | _ => none
/-- a call of an own method: callee, arguments in their order, the rest of the stack -/
def am_call (mt : am_M1) (ins : Instr) (st : List Value) (h : am_H) : Option (am_M1 × List Value × List Value) := match ins with
  | .invokevirtual ix => match am_inv (am_own mt) ix with
    | some q => match (st.drop (am_np q.2)) with
      | .ref i :: rest => match h.1[i]? with
        | some (.inr (cj, _)) => if (q.1 = 0 ∧ cj = am_own q.2) ∧ ((st.take (am_np q.2)).length = am_np q.2 ∧ am_cs rest ≤ 8 ∧ am_cs (st.take (am_np q.2)) = am_np q.2) then some (q.2, .ref i :: (st.take (am_np q.2)).reverse, rest) else none
        | _ => none
      | _ => none
    | none => none
  | .invokestatic ix => match am_inv (am_own mt) ix with
    | some q => if (q.1 = 1 ∨ q.1 = 3) ∧ ((st.take (am_np q.2)).length = am_np q.2 ∧ am_cs (st.drop (am_np q.2)) ≤ 8 ∧ am_cs (st.take (am_np q.2)) = am_np q.2) then some (q.2, (st.take (am_np q.2)).reverse, st.drop (am_np q.2)) else none
    | none => none
  | .invokespecial ix => match am_inv (am_own mt) ix with
    | some q => match (st.drop (am_np q.2)) with
      | .ref i :: rest => if (q.1 = 2 ∨ q.1 = 4) ∧ ((st.take (am_np q.2)).length = am_np q.2 ∧ am_cs rest ≤ 8 ∧ am_cs (st.take (am_np q.2)) = am_np q.2) then some (q.2, .ref i :: (st.take (am_np q.2)).reverse, rest) else none
      | _ => none
    | none => none
  | _ => none
/-- 'throw new E(text)' begins here: which class -/
def am_thr (mt : am_M1) (ins : Instr) (pc : Nat) (st : List Value) : Option Nat := match ins with
  | .new ix => match am_find ix (am_xT (am_own mt)) with
    | some q => if (am_own mt = 9 ∧ am_hh mt = [] ∧ am_cs st ≤ 8) ∧ am_find (pc + 3) (am_c mt) = some (.dup, 1) then (match am_find (pc + 4) (am_c mt) with
      | some (.ldc is, _) => if (am_find is (am_xxT 9)).isSome ∧ am_find (pc + 6) (am_c mt) = some (.invokespecial q.2.1, 3) ∧ am_find (pc + 9) (am_c mt) = some (.athrow, 1) then some q.1 else none
      | some (.ldc_w is, _) => if (am_find is (am_xxT 9)).isSome ∧ am_find (pc + 7) (am_c mt) = some (.invokespecial q.2.1, 3) ∧ am_find (pc + 10) (am_c mt) = some (.athrow, 1) then some q.1 else none
      | _ => none) else none
    | none => none
  | _ => none
/-- which row of the table takes E thrown at pc: some (some hp), none of them (some none) -/
def am_hand (own pc E : Nat) : List (Nat × Nat × Nat × Nat) → Option (Option Nat)
  | [] => some none
  | (a, b, hp, ct) :: l => if a ≤ pc ∧ pc < b then (match am_find ct (am_qT own) with
      | some (E2, _) => if E2 = E then some (some hp) else am_hand own pc E l
      | none => none) else am_hand own pc E l
/-- the start of a handler: the thing that was thrown is put into a local and forgotten -/
def am_caught (mt : am_M1) (hp : Nat) (lv : am_L) : Option (Nat × am_L) := match am_find hp (am_c mt) with
  | some (.astore i, len) => if i < lv.length then some (hp + len, (am_sto lv i (.ref 0)).set i none) else none
  | some (.astore_n i, len) => if i < lv.length then some (hp + len, (am_sto lv i (.ref 0)).set i none) else none
  | _ => none
/-- the text that acts puts together: its numbers as digits -/
def am_dg (n : Nat) : String := if n < 10 then String.singleton (Char.ofNat (48 + n)) else String.singleton (Char.ofNat (48 + n / 10)) ++ String.singleton (Char.ofNat (48 + n % 10))
def am_text (a b c : Nat) : String := ("post " ++ am_dg a ++ " " ++ am_dg b) ++
  (if c % 3 = 0 then ";pass " ++ am_dg c else if c % 3 = 1 then ";cross " ++ am_dg a ++ " " ++ am_dg b else ";fog " ++ am_dg b ++ " " ++ am_dg c ++ ";settle " ++ am_dg b ++ "+")
def am_txu (tx : Nat → Option String) (t : String) : Nat → Option String := fun i => if i = 999 then some t else tx i
/-- the place in acts where a text is put together and handed to does: the object, the three numbers -/
def am_mac (mt : am_M1) (pc : Nat) (lv : am_L) (st : List Value) : Option (Nat × Int32 × Int32 × Int32) :=
  if (am_own mt = 11 ∧ am_b mt = am_b am_m_L_acts ∧ am_mL mt = 6 ∧ am_rt mt = some .int) ∧ pc = 283 then (match st with
    | [.ref i] => match am_ld lv 3 with
      | some (.int a) => match am_ld lv 4 with
        | some (.int b) => match am_ld lv 5 with
          | some (.int c) => if am_in a 7 = true ∧ am_in b 9 = true ∧ am_in c 11 = true then some (i, a, b, c) else none
          | _ => none
        | _ => none
      | _ => none
    | _ => none) else none
def am_add (c s : Nat) (r : am_R) : am_R := (r.1, r.2.1, r.2.2.1, c + r.2.2.2.1, s + r.2.2.2.2)
def am_run (L : Nat) (xs : Nat → Int32) : Nat → (Nat → Option String) → Nat → am_M1 → Nat → am_L → List Value → am_H → Bool → Option am_R
  | 0, _, _, _, _, _, _, _, _ => none
  | n + 1, tx, d, mt, pc, lv, st, h, ph => match am_find pc (am_c mt) with
    | none => none
    | some (ins, len) => match am_simple ins len pc lv st with
      | some (pc2, lv2, st2) => am_run L xs n tx d mt pc2 lv2 st2 h ph
      | none => match am_heap L xs tx mt ins st h ph with
        | some (st2, h2, ph2, c, s) => (am_run L xs n tx d mt (pc + len) lv st2 h2 ph2).map (am_add c s)
        | none => match am_call mt ins st h with
          | some (m2, as, rest) => match d with
            | 0 => none
            | d2 + 1 => match am_run L xs n tx d2 m2 0 (am_ini (am_mL m2) as) [] h ph with
              | none => none
              | some (.inl v, h2, ph2, c, s) => (am_run L xs n tx (d2 + 1) mt (pc + len) lv (v.toList ++ rest) h2 ph2).map (am_add c s)
              | some (.inr E, h2, ph2, c, s) => match am_hand (am_own mt) pc E (am_hh mt) with
                | none => none
                | some none => some (.inr E, h2, ph2, c, s)
                | some (some hp) => match am_caught mt hp lv with
                  | none => none
                  | some (pc2, lv2) => (am_run L xs n tx (d2 + 1) mt pc2 lv2 [] h2 ph2).map (am_add c s)
          | none => match am_ret (am_rt mt) ins st with
            | some v => some (.inl v, h, ph, 0, 0)
            | none => match am_thr mt ins pc st with
              | some E => some (.inr E, h, ph, 1, 6)
              | none => match am_mac mt pc lv st with
                | none => none
                | some (i, a, b, c) => match d with
                  | 0 => none
                  | d2 + 1 => if d2 < 12 then none else (match am_run L xs n (am_txu tx (am_text a.toNatClampNeg b.toNatClampNeg c.toNatClampNeg)) d2 am_m_L_does 0 (am_ini (am_mL am_m_L_does) [.ref i, .retAddr 1000]) [] h ph with
                    | some (.inl (some (.int v)), h2, ph2, c2, s2) => some (.inl (some (.int v)), h2, ph2, c2 + 24, s2 + 4000)
                    | _ => none)
