/-! THE JDK'S STRINGBUILDER: contracts of its methods; written by program (wip/p47tools/j83.py) -/
def jsW : List Cond := u_ws RJ4 TJ4 4 ++ (u_ws RJ0 TJ0 4 ++ [Cond.fieldLink RJ5 18 "java/lang/String" "COMPACT_STRINGS" "Z", Cond.fieldLink RJ5 22 "java/lang/AbstractStringBuilder" "coder" "B", Cond.fieldLink RJ5 15 "java/lang/AbstractStringBuilder" "value" "[B", Cond.fieldLink RJ5 79 "java/lang/AbstractStringBuilder" "count" "I", Cond.methodLink RJ8 194 Lib.Math.max.name, Cond.static Lib.Math.max.name, Cond.initialized "java/lang/Math", Cond.code Lib.Math.max.name Lib.Math.max.code 2 (some .int), Cond.constant RJ8 200 (2147483639), Cond.arrayClass .byte, Cond.methodLink RJ7 304 Lib.Math.min.name, Cond.static Lib.Math.min.name, Cond.code Lib.Math.min.name Lib.Math.min.code 2 (some .int), Cond.methodLink RJ7 150 arraycopyName, Cond.native arraycopyName, Cond.static arraycopyName, Cond.initialized "java/lang/System", Cond.code yJ8_newLength_cabcc cJ8_newLength_cabcc 4 (some .int), Cond.initialized RJ8, Cond.methodLink RJ5 114 yJ8_newLength_cabcc, Cond.static yJ8_newLength_cabcc, Cond.constant RJ5 39 (2147483647), Cond.selects RJ4 yJ5_newCapacity_0f7a4 yJ5_newCapacity_0f7a4, Cond.code yJ5_newCapacity_0f7a4 cJ5_newCapacity_0f7a4 6 (some .int), Cond.initialized RJ5, Cond.methodLink RJ5 104 ⟨"java/lang/AbstractStringBuilder", "newCapacity", "(I)I"⟩, Cond.instanceMethod yJ5_newCapacity_0f7a4, Cond.code yJ7_copyOf_9075b cJ7_copyOf_9075b 3 (some (.array .byte)), Cond.initialized RJ7, Cond.methodLink RJ5 108 yJ7_copyOf_9075b, Cond.static yJ7_copyOf_9075b, Cond.methodLink RJ5 40 yJ0_coder_7d493, Cond.methodLink RJ0 335 yJ0_coder_7d493, Cond.fieldLink RJ0 9 "java/lang/String" "value" "[B", Cond.methodLink RJ0 212 arraycopyName, Cond.selects RJ4 yJ5_inflateIfNeededFor_a7421 yJ5_inflateIfNeededFor_a7421, Cond.code yJ5_inflateIfNeededFor_a7421 cJ5_inflateIfNeededFor_a7421 2 none, Cond.methodLink RJ5 397 ⟨"java/lang/AbstractStringBuilder", "inflateIfNeededFor", "(Ljava/lang/String;)V"⟩, Cond.instanceMethod yJ5_inflateIfNeededFor_a7421, Cond.code yJ0_getBytes_840e7 cJ0_getBytes_840e7 4 none, Cond.initialized RJ0, Cond.methodLink RJ5 399 yJ0_getBytes_840e7, Cond.instanceMethod yJ0_getBytes_840e7, Cond.selects RJ0 yJ0_getBytes_840e7 yJ0_getBytes_840e7, Cond.methodLink RJ5 32 yJ0_length_8abf5, Cond.selects RJ4 yJ5_ensureCapacityInternal_d00df yJ5_ensureCapacityInternal_d00df, Cond.code yJ5_ensureCapacityInternal_d00df cJ5_ensureCapacityInternal_d00df 3 none, Cond.methodLink RJ5 100 ⟨"java/lang/AbstractStringBuilder", "ensureCapacityInternal", "(I)V"⟩, Cond.instanceMethod yJ5_ensureCapacityInternal_d00df, Cond.selects RJ4 yJ5_putStringAt_47b60 yJ5_putStringAt_47b60, Cond.code yJ5_putStringAt_47b60 cJ5_putStringAt_47b60 3 none, Cond.methodLink RJ5 208 ⟨"java/lang/AbstractStringBuilder", "putStringAt", "(ILjava/lang/String;)V"⟩, Cond.instanceMethod yJ5_putStringAt_47b60, Cond.methodLink RJ4 29 yJ5_append_cf1ce, Cond.sameMethod yJ5_append_cf1ce.cls yJ5_append_cf1ce.cls yJ5_append_cf1ce.name yJ5_append_cf1ce.desc, Cond.superclass RJ4 RJ5, Cond.instanceMethod yJ5_append_cf1ce, Cond.code yJ5_append_cf1ce cJ5_append_cf1ce 3 (some (.object "java/lang/AbstractStringBuilder")), Cond.fieldLink RJ6 83 "java/lang/Integer" "DigitOnes" "[B", Cond.fieldLink RJ6 87 "java/lang/Integer" "DigitTens" "[B", Cond.code yJ6_stringSize_0f7a4 cJ6_stringSize_0f7a4 4 (some .int), Cond.initialized RJ6, Cond.methodLink RJ5 245 yJ6_stringSize_0f7a4, Cond.static yJ6_stringSize_0f7a4, Cond.code yJ5_isLatin1_aae02 cJ5_isLatin1_aae02 1 (some .boolean), Cond.methodLink RJ5 83 ⟨"java/lang/AbstractStringBuilder", "isLatin1", "()Z"⟩, Cond.instanceMethod yJ5_isLatin1_aae02, Cond.selects RJ4 yJ5_isLatin1_aae02 yJ5_isLatin1_aae02, Cond.code yJ6_getChars_ba4f3 cJ6_getChars_ba4f3 7 (some .int), Cond.methodLink RJ5 248 yJ6_getChars_ba4f3, Cond.static yJ6_getChars_ba4f3, Cond.methodLink RJ4 53 yJ5_append_c97b9, Cond.sameMethod yJ5_append_c97b9.cls yJ5_append_c97b9.cls yJ5_append_c97b9.name yJ5_append_c97b9.desc, Cond.instanceMethod yJ5_append_c97b9, Cond.code yJ5_append_c97b9 cJ5_append_c97b9 4 (some (.object "java/lang/AbstractStringBuilder")), Cond.methodLink RJ5 3 objectInit, Cond.instanceMethod objectInit, Cond.code objectInit ⟨#[0xb1]⟩ 1 none, Cond.code yJ5_init_d00df cJ5_init_d00df 2 none, Cond.methodLink RJ4 1 yJ5_init_d00df, Cond.instanceMethod yJ5_init_d00df, Cond.methodLink RJ4 343 yJ5_length_8abf5, Cond.sameMethod yJ5_length_8abf5.cls yJ5_length_8abf5.cls yJ5_length_8abf5.name yJ5_length_8abf5.desc, Cond.instanceMethod yJ5_length_8abf5, Cond.code yJ5_length_8abf5 cJ5_length_8abf5 1 (some .int), Cond.code yJ7_checkLength_df160 cJ7_checkLength_df160 2 none, Cond.methodLink RJ7 343 yJ7_checkLength_df160, Cond.static yJ7_checkLength_df160, Cond.methodLink RJ7 310 ⟨"[B", "clone", "()Ljava/lang/Object;"⟩, Cond.sameMethod "[B" "java/lang/Object" "clone" "()Ljava/lang/Object;", Cond.native ⟨"java/lang/Object", "clone", "()Ljava/lang/Object;"⟩, Cond.instanceMethod ⟨"java/lang/Object", "clone", "()Ljava/lang/Object;"⟩, Cond.selects "[B" ⟨"[B", "clone", "()Ljava/lang/Object;"⟩ ⟨"java/lang/Object", "clone", "()Ljava/lang/Object;"⟩, Cond.classLink RJ7 311 "[B", Cond.code yJ7_copyOfRangeByte_39247 cJ7_copyOfRangeByte_39247 5 (some (.array .byte)), Cond.methodLink RJ7 339 yJ7_copyOfRangeByte_39247, Cond.static yJ7_copyOfRangeByte_39247, Cond.methodLink RJ0 1 objectInit, Cond.code yJ5_getValue_6d5f1 cJ5_getValue_6d5f1 1 (some (.array .byte)), Cond.methodLink RJ0 552 ⟨"java/lang/AbstractStringBuilder", "getValue", "()[B"⟩, Cond.instanceMethod yJ5_getValue_6d5f1, Cond.selects RJ4 yJ5_getValue_6d5f1 yJ5_getValue_6d5f1, Cond.code yJ4_length_8abf5 cJ4_length_8abf5 1 (some .int), Cond.initialized RJ4, Cond.methodLink RJ0 549 ⟨"java/lang/AbstractStringBuilder", "length", "()I"⟩, Cond.sameMethod "java/lang/AbstractStringBuilder" "java/lang/AbstractStringBuilder" "length" "()I", Cond.selects RJ4 yJ5_length_8abf5 yJ4_length_8abf5, Cond.instanceMethod yJ4_length_8abf5, Cond.methodLink RJ0 1047 ⟨"java/lang/AbstractStringBuilder", "isLatin1", "()Z"⟩, Cond.fieldLink RJ0 15 "java/lang/String" "coder" "B", Cond.code yJ7_copyOfRange_39247 cJ7_copyOfRange_39247 3 (some (.array .byte)), Cond.methodLink RJ0 54 yJ7_copyOfRange_39247, Cond.static yJ7_copyOfRange_39247, Cond.code yJ0_init_db425 cJ0_init_db425 5 none, Cond.methodLink RJ0 489 yJ0_init_db425, Cond.instanceMethod yJ0_init_db425, Cond.classLink RJ4 18 RJ0, Cond.instantiable RJ0 4, Cond.code yJ0_init_81219 cJ0_init_81219 2 none, Cond.methodLink RJ4 137 yJ0_init_81219, Cond.instanceMethod yJ0_init_81219, Cond.code yJ4_append_15ec4 cJ4_append_15ec4 2 (some (.object "java/lang/StringBuilder")), Cond.methodLink RL 167 yJ4_append_15ec4, Cond.instanceMethod yJ4_append_15ec4, Cond.selects RJ4 yJ4_append_15ec4 yJ4_append_15ec4, Cond.code yJ4_append_bf812 cJ4_append_bf812 2 (some (.object "java/lang/StringBuilder")), Cond.methodLink RL 171 yJ4_append_bf812, Cond.instanceMethod yJ4_append_bf812, Cond.selects RJ4 yJ4_append_bf812 yJ4_append_bf812, Cond.code yJ4_init_da8c8 cJ4_init_da8c8 1 none, Cond.methodLink RL 164 yJ4_init_da8c8, Cond.instanceMethod yJ4_init_da8c8, Cond.code yJ4_toString_0e30d cJ4_toString_0e30d 1 (some (.object "java/lang/String")), Cond.methodLink RL 178 yJ4_toString_0e30d, Cond.instanceMethod yJ4_toString_0e30d, Cond.selects RJ4 yJ4_toString_0e30d yJ4_toString_0e30d, Cond.classLink RL 162 RJ4, Cond.instantiable RJ4 4])
theorem js_in {w : Cond} (i : Nat) (h : jsW[8 + i]? = some w) : w ∈ am_WS jsW := List.mem_append_right _ (List.mem_append_right _ (List.mem_of_getElem? h))
theorem js_u4 : ∀ w ∈ u_ws RJ4 TJ4 4, w ∈ am_WS jsW := fun w hw => List.mem_append_right _ (List.mem_append_right _ (List.mem_append_left _ hw))
theorem js_u0 : ∀ w ∈ u_ws RJ0 TJ0 4, w ∈ am_WS jsW := fun w hw => List.mem_append_right _ (List.mem_append_right _ (List.mem_append_right _ (List.mem_append_left _ hw)))
/-- calls of private methods: what they select follows from the tables -/
def jsP : List MethodName := [yJ5_newCapacity_0f7a4, yJ5_ensureCapacityInternal_d00df, yJ5_putStringAt_47b60, yJ5_inflateIfNeededFor_a7421]
theorem js_tb0 : ∀ w ∈ (jsW.drop 0).take 16, w ∈ lw_tbl ∨ w ∈ jsP.map (fun y => Cond.selects RJ4 y y) := by decide +kernel
theorem js_tb1 : ∀ w ∈ (jsW.drop 16).take 16, w ∈ lw_tbl ∨ w ∈ jsP.map (fun y => Cond.selects RJ4 y y) := by decide +kernel
theorem js_tb2 : ∀ w ∈ (jsW.drop 32).take 16, w ∈ lw_tbl ∨ w ∈ jsP.map (fun y => Cond.selects RJ4 y y) := by decide +kernel
theorem js_tb3 : ∀ w ∈ (jsW.drop 48).take 16, w ∈ lw_tbl ∨ w ∈ jsP.map (fun y => Cond.selects RJ4 y y) := by decide +kernel
theorem js_tb4 : ∀ w ∈ (jsW.drop 64).take 16, w ∈ lw_tbl ∨ w ∈ jsP.map (fun y => Cond.selects RJ4 y y) := by decide +kernel
theorem js_tb5 : ∀ w ∈ (jsW.drop 80).take 16, w ∈ lw_tbl ∨ w ∈ jsP.map (fun y => Cond.selects RJ4 y y) := by decide +kernel
theorem js_tb6 : ∀ w ∈ (jsW.drop 96).take 16, w ∈ lw_tbl ∨ w ∈ jsP.map (fun y => Cond.selects RJ4 y y) := by decide +kernel
theorem js_tb7 : ∀ w ∈ (jsW.drop 112).take 16, w ∈ lw_tbl ∨ w ∈ jsP.map (fun y => Cond.selects RJ4 y y) := by decide +kernel
theorem js_tb8 : ∀ w ∈ (jsW.drop 128).take 16, w ∈ lw_tbl ∨ w ∈ jsP.map (fun y => Cond.selects RJ4 y y) := by decide +kernel
theorem js_tb9 : ∀ w ∈ (jsW.drop 144).take 16, w ∈ lw_tbl ∨ w ∈ jsP.map (fun y => Cond.selects RJ4 y y) := by decide +kernel
set_option maxRecDepth 100000 in
theorem js_tb : ∀ w ∈ jsW, w ∈ lw_tbl ∨ w ∈ jsP.map (fun y => Cond.selects RJ4 y y) := by
  have h : jsW = (jsW.drop 0).take 16 ++ ((jsW.drop 16).take 16 ++ ((jsW.drop 32).take 16 ++ ((jsW.drop 48).take 16 ++ ((jsW.drop 64).take 16 ++ ((jsW.drop 80).take 16 ++ ((jsW.drop 96).take 16 ++ ((jsW.drop 112).take 16 ++ ((jsW.drop 128).take 16 ++ ((jsW.drop 144).take 16))))))))) := rfl
  intro w hw
  rw [h] at hw
  rcases List.mem_append.mp hw with hw | hw
  · exact js_tb0 w hw
  rcases List.mem_append.mp hw with hw | hw
  · exact js_tb1 w hw
  rcases List.mem_append.mp hw with hw | hw
  · exact js_tb2 w hw
  rcases List.mem_append.mp hw with hw | hw
  · exact js_tb3 w hw
  rcases List.mem_append.mp hw with hw | hw
  · exact js_tb4 w hw
  rcases List.mem_append.mp hw with hw | hw
  · exact js_tb5 w hw
  rcases List.mem_append.mp hw with hw | hw
  · exact js_tb6 w hw
  rcases List.mem_append.mp hw with hw | hw
  · exact js_tb7 w hw
  rcases List.mem_append.mp hw with hw | hw
  · exact js_tb8 w hw
  exact js_tb9 w hw
theorem js_pr : ∀ y ∈ jsP, (Cond.privateMethod y ∈ lw_tbl ∧ Cond.instanceMethod y ∈ lw_tbl) ∧ y.cls = RJ5 := by decide +kernel
theorem js_sl : Cond.selects RJ4 yJ5_isLatin1_aae02 yJ5_isLatin1_aae02 ∈ lw_tbl := by decide +kernel
theorem js_all {a : Array Value} {s : State} (h : ∀ w ∈ lw_tbl, w.before a s = true) : ∀ w ∈ jsW, w.before a s = true := by
  intro w hw
  rcases js_tb w hw with q | q
  · exact h w q
  · obtain ⟨y, hy, rfl⟩ := List.mem_map.mp q
    obtain ⟨⟨h1, h2⟩, h3⟩ := js_pr y hy
    exact js_selp (by rw [h3]; exact ⟨by decide, by decide⟩) (h _ js_sl) (by rw [h3]; rfl) (h _ h1) (h _ h2)
theorem js_gd : ∀ w ∈ jsW, goodWord w = true := by decide +kernel
theorem js_sub {a b : Nat} (h : b ≤ a) : nI a - nI b = nI (a - b) := by
  rw [show a = (a - b) + b from by omega, ← nI_add, Int32.add_sub_cancel]
  congr 1
  omega
theorem js_shr0 (x : Int32) : x >>> ((0 : Int32) &&& 31) = x := by simp
theorem js_shl0 (x : Int32) : x <<< ((0 : Int32) &&& 31) = x := by simp
theorem js_oi (a : Nat) : nI a = Int32.ofInt ((a : Nat) : Int) := (Int32.ofInt_eq_ofNat).symm
theorem js_le {a b : Nat} (ha : a < 2 ^ 30) (hb : b < 2 ^ 30) : nI a - nI b ≤ 0 ↔ a ≤ b := by
  rw [js_oi, js_oi, ← Int32.ofInt_sub]
  have h0 : (0 : Int32) = Int32.ofInt 0 := by decide
  rw [h0, ← Int32.not_lt, az_lt ⟨by decide, by decide⟩ ⟨by omega, by omega⟩]
  omega
theorem js_mx {g q : Nat} (hg : g < 2 ^ 31) (hq : q < 2 ^ 31) : (if nI g < nI q then nI q else nI g) = nI (if g < q then q else g) := by
  by_cases h : g < q
  · rw [if_pos h, if_pos (nI_lt h hq)]
  · rw [if_neg h, if_neg (nI_nlt (by omega) hg)]
theorem js_mn {g q : Nat} (hg : g < 2 ^ 31) (hq : q < 2 ^ 31) : (if nI q < nI g then nI q else nI g) = nI (if q < g then q else g) := by
  by_cases h : q < g
  · rw [if_pos h, if_pos (nI_lt h hg)]
  · rw [if_neg h, if_neg (nI_nlt (by omega) hq)]
theorem js_ng (v : Nat) : -nI v = Int32.ofInt (-((v : Nat) : Int)) := by rw [js_oi, ← Int32.ofInt_neg]
theorem js_ngl {v k : Nat} (hv : v < 2 ^ 30) (hk : k < 2 ^ 30) : -nI v ≤ -nI k ↔ k ≤ v := by
  rw [js_ng, js_ng, ← Int32.not_lt, az_lt ⟨by omega, by omega⟩ ⟨by omega, by omega⟩]
  omega
theorem js_ngt {v k : Nat} (hv : v < 2 ^ 30) (hk : k < 2 ^ 30) : -nI v < -nI k ↔ k < v := by
  rw [js_ng, js_ng, az_lt ⟨by omega, by omega⟩ ⟨by omega, by omega⟩]
  omega
theorem js_dc {n : Nat} (h : 0 < n) : nI n + Int32.ofInt (-1) = nI (n - 1) := by
  rw [js_oi, js_oi, ← Int32.ofInt_add]
  congr 1
  omega
/-- the digits of a number under 100 -/
def js_dg (v : Nat) : Nat := if v < 10 then 1 else 2
def js_dd (v j : Nat) : Nat := if v < 10 then 48 + v else if j = 0 then 48 + v / 10 else 48 + v % 10
theorem js_dn : ∀ n, n < 128 → vp_nar .byte (Int32.ofNat n) = Int32.ofNat n ∧ fits .byte (.int (Int32.ofNat n)) = true := by decide +kernel
/-- Integer's two rows of digits -/
def js_T (A : Nat → Prop) (EV : State → Heap → Prop) : Prop := ∃ t1 t2 : Nat, ∀ (U : State) (H : Heap), EV U H → (va_Z "java/lang/Integer" "DigitOnes" "[B" (.ref t1) A U H ∧ va_T .byte t1 100 (fun j => .int (Int32.ofNat (48 + j % 10))) A U H) ∧ va_Z "java/lang/Integer" "DigitTens" "[B" (.ref t2) A U H ∧ va_T .byte t2 100 (fun j => .int (Int32.ofNat (48 + j / 10))) A U H
def js_ft (f : Nat → Int32) : Prop := ∀ i, fits .byte (.int (f i)) = true
theorem js_ft0 : js_ft (fun _ => 0) := fun _ => rfl
theorem js_ftc {f g : Nat → Int32} {a b n : Nat} (hf : js_ft f) (hg : js_ft g) : js_ft (va_cpy f g a b n) := fun i => by
  unfold va_cpy
  split
  · exact hf _
  · exact hg _
theorem js_ftu {f : Nat → Int32} {i k : Nat} (hf : js_ft f) (hk : k < 128) : js_ft (upd f i (vp_nar .byte (Int32.ofNat k))) := fun j => by
  rw [(js_dn k hk).1]
  unfold upd
  split
  · exact (js_dn k hk).2
  · exact hf j
/-- how large the row of bytes becomes -/
def js_cap (q m : Nat) : Nat := m + (if q - m < m + 2 then m + 2 else q - m)
def js_nc (q m : Nat) : Nat := if q ≤ m then m else js_cap q m
set_option maxHeartbeats 1000000 in
theorem jc_isLatin1 {l : Launch} {D : va_G} {cB : ClassId} {A : Nat → Prop} {EV : State → Heap → Prop} (hg : ∀ w ∈ am_WS jsW, goodWord w = true) (hm : am_EVm A EV) (hB : ss_B A EV) {b d cap n : Nat} {ml : Int32} {f : Nat → Int32} : Met l yJ5_isLatin1_aae02 (Cond.code yJ5_isLatin1_aae02 cJ5_isLatin1_aae02 1 (some .boolean) :: am_WS jsW) ({ frames := 0, cells := 0, slots := 0, locals := 0 }) (js_Pc D cB A EV [.ref b] (js_b cB b d cap n ml f)) (js_Q D A (fun v w => v = some (.int 1) ∧ w = js_b cB b d cap n ml f)) (0) (0) A := by
  refine Met.ofW (cc := cJ5_isLatin1_aae02) (maxL := 1) (ret := (some .boolean)) (by decide) rfl ?_
  intro p e s m args below meth c s₁ B hml hv
  obtain ⟨rfl, hP, hD, hK, hA0, hE0⟩ := hv
  have hx := B.exec
  have hb := B.bytes
  have hr := B.returns
  have hlocks := B.notSynchronized
  have hts0 := atoms_spec (ws := Cond.code yJ5_isLatin1_aae02 cJ5_isLatin1_aae02 1 (some .boolean) :: am_WS jsW) B.pre
  have hts : ∀ w ∈ am_WS jsW, w.before ([.ref b] : List Value).toArray s = true := fun w hw => hts0 w (List.mem_cons_of_mem _ hw)
  have hown : s.vm.findClass RJ5 = some m.cls := findClass_of_methodNamed B.named
  have hS : va_S A s.heap s.heap [] := va_S.rf
  have hl := lv_entry ([.ref b]) (n := 1) (Nat.le_of_ble_eq_true rfl)
  rw [lg_entry_eq]
  generalize (lg_sl ([.ref b]) ++ List.replicate (1 - (lg_sl ([.ref b])).length) Slot.unset).toArray = ls at hl ⊢
  have hl : lv_has ls 1 [(0, .ref b)] := hl
  have hE : EV s s.heap := hE0
  have hA := hA0
  refine va_gets hx hb (hB.1 _ _ hE0) hS hown (hts _ (js_in 0 rfl)) (fun _ h => h) (show decode cJ5_isLatin1_aae02 0 = .ok (.getstatic 18, 3) by decide +kernel) ?_
  refine lv_if_eq hx hb (show decode cJ5_isLatin1_aae02 3 = .ok (.ifCond .eq 14, 3) by decide +kernel) (tgt := 17) (by decide) (fun h => absurd h (by decide)) (fun _ => ?_)
  refine lv_aload_n hx hb (show decode cJ5_isLatin1_aae02 6 = .ok (.aload_n 0, 1) by decide +kernel) rfl (lv_at hl 0 rfl) ?_
  refine va_get hx hb hts js_u4 hown hK hP 0 rfl rfl 1 (by decide) (hts _ (js_in 1 rfl)) (fun _ h => h) (v := .int 0) rfl (show decode cJ5_isLatin1_aae02 7 = .ok (.getfield 22, 3) by decide +kernel) ?_
  refine lv_if_ne hx hb (show decode cJ5_isLatin1_aae02 10 = .ok (.ifCond .ne 7, 3) by decide +kernel) (tgt := 17) (by decide) (fun h => absurd h (fun h => h rfl)) (fun _ => ?_)
  refine lv_iconst hx hb (v := 1) (show decode cJ5_isLatin1_aae02 13 = .ok (.iconst 1, 1) by decide +kernel) (by decide) ?_
  refine lv_goto hx hb (show decode cJ5_isLatin1_aae02 14 = .ok (.goto 4, 3) by decide +kernel) (tgt := 18) (by decide) ?_
  exact W.zret hx hb hr (by decide) (fun t ht _ => ⟨⟨_, js_b cB b d cap n ml f, rfl, ⟨rfl, rfl⟩, by rw [ht]; exact hP, hD⟩, hS.F ht⟩) hS.2.2 (show decode cJ5_isLatin1_aae02 18 = .ok (.ireturn, 1) by decide +kernel) hlocks
set_option maxHeartbeats 1000000 in
theorem jc_getValue {l : Launch} {D : va_G} {cB : ClassId} {A : Nat → Prop} {EV : State → Heap → Prop} (hg : ∀ w ∈ am_WS jsW, goodWord w = true) (hm : am_EVm A EV) (hB : ss_B A EV) {b d cap n : Nat} {ml : Int32} {f : Nat → Int32} : Met l yJ5_getValue_6d5f1 (Cond.code yJ5_getValue_6d5f1 cJ5_getValue_6d5f1 1 (some (.array .byte)) :: am_WS jsW) ({ frames := 0, cells := 0, slots := 0, locals := 0 }) (js_Pc D cB A EV [.ref b] (js_b cB b d cap n ml f)) (js_Q D A (fun v w => v = some (.ref d) ∧ w = js_b cB b d cap n ml f)) (0) (0) A := by
  refine Met.ofW (cc := cJ5_getValue_6d5f1) (maxL := 1) (ret := (some (.array .byte))) (by decide) rfl ?_
  intro p e s m args below meth c s₁ B hml hv
  obtain ⟨rfl, hP, hD, hK, hA0, hE0⟩ := hv
  have hx := B.exec
  have hb := B.bytes
  have hr := B.returns
  have hlocks := B.notSynchronized
  have hts0 := atoms_spec (ws := Cond.code yJ5_getValue_6d5f1 cJ5_getValue_6d5f1 1 (some (.array .byte)) :: am_WS jsW) B.pre
  have hts : ∀ w ∈ am_WS jsW, w.before ([.ref b] : List Value).toArray s = true := fun w hw => hts0 w (List.mem_cons_of_mem _ hw)
  have hown : s.vm.findClass RJ5 = some m.cls := findClass_of_methodNamed B.named
  have hS : va_S A s.heap s.heap [] := va_S.rf
  have hl := lv_entry ([.ref b]) (n := 1) (Nat.le_of_ble_eq_true rfl)
  rw [lg_entry_eq]
  generalize (lg_sl ([.ref b]) ++ List.replicate (1 - (lg_sl ([.ref b])).length) Slot.unset).toArray = ls at hl ⊢
  have hl : lv_has ls 1 [(0, .ref b)] := hl
  have hE : EV s s.heap := hE0
  have hA := hA0
  refine lv_aload_n hx hb (show decode cJ5_getValue_6d5f1 0 = .ok (.aload_n 0, 1) by decide +kernel) rfl (lv_at hl 0 rfl) ?_
  refine va_get hx hb hts js_u4 hown hK hP 0 rfl rfl 0 (by decide) (hts _ (js_in 2 rfl)) (fun _ h => h) (v := .ref d) rfl (show decode cJ5_getValue_6d5f1 1 = .ok (.getfield 15, 3) by decide +kernel) ?_
  exact W.aret hx hb hr (Or.inr ⟨_, rfl⟩) (Or.inr ⟨_, rfl⟩) (fun t ht _ => ⟨⟨_, js_b cB b d cap n ml f, rfl, ⟨rfl, rfl⟩, by rw [ht]; exact hP, hD⟩, hS.F ht⟩) hS.2.2 (show decode cJ5_getValue_6d5f1 4 = .ok (.areturn, 1) by decide +kernel) hlocks
set_option maxHeartbeats 1000000 in
theorem jc_length5 {l : Launch} {D : va_G} {cB : ClassId} {A : Nat → Prop} {EV : State → Heap → Prop} (hg : ∀ w ∈ am_WS jsW, goodWord w = true) (hm : am_EVm A EV) (hB : ss_B A EV) {b d cap n : Nat} {ml : Int32} {f : Nat → Int32} : Met l yJ5_length_8abf5 (Cond.code yJ5_length_8abf5 cJ5_length_8abf5 1 (some .int) :: am_WS jsW) ({ frames := 0, cells := 0, slots := 0, locals := 0 }) (js_Pc D cB A EV [.ref b] (js_b cB b d cap n ml f)) (js_Q D A (fun v w => v = some (.int (Int32.ofNat n)) ∧ w = js_b cB b d cap n ml f)) (0) (0) A := by
  refine Met.ofW (cc := cJ5_length_8abf5) (maxL := 1) (ret := (some .int)) (by decide) rfl ?_
  intro p e s m args below meth c s₁ B hml hv
  obtain ⟨rfl, hP, hD, hK, hA0, hE0⟩ := hv
  have hx := B.exec
  have hb := B.bytes
  have hr := B.returns
  have hlocks := B.notSynchronized
  have hts0 := atoms_spec (ws := Cond.code yJ5_length_8abf5 cJ5_length_8abf5 1 (some .int) :: am_WS jsW) B.pre
  have hts : ∀ w ∈ am_WS jsW, w.before ([.ref b] : List Value).toArray s = true := fun w hw => hts0 w (List.mem_cons_of_mem _ hw)
  have hown : s.vm.findClass RJ5 = some m.cls := findClass_of_methodNamed B.named
  have hS : va_S A s.heap s.heap [] := va_S.rf
  have hl := lv_entry ([.ref b]) (n := 1) (Nat.le_of_ble_eq_true rfl)
  rw [lg_entry_eq]
  generalize (lg_sl ([.ref b]) ++ List.replicate (1 - (lg_sl ([.ref b])).length) Slot.unset).toArray = ls at hl ⊢
  have hl : lv_has ls 1 [(0, .ref b)] := hl
  have hE : EV s s.heap := hE0
  have hA := hA0
  refine lv_aload_n hx hb (show decode cJ5_length_8abf5 0 = .ok (.aload_n 0, 1) by decide +kernel) rfl (lv_at hl 0 rfl) ?_
  refine va_get hx hb hts js_u4 hown hK hP 0 rfl rfl 3 (by decide) (hts _ (js_in 3 rfl)) (fun _ h => h) (v := .int (Int32.ofNat n)) rfl (show decode cJ5_length_8abf5 1 = .ok (.getfield 79, 3) by decide +kernel) ?_
  exact W.iret hx hb hr (fun t ht _ => ⟨⟨_, js_b cB b d cap n ml f, rfl, ⟨rfl, rfl⟩, by rw [ht]; exact hP, hD⟩, hS.F ht⟩) hS.2.2 (show decode cJ5_length_8abf5 4 = .ok (.ireturn, 1) by decide +kernel) hlocks
set_option maxHeartbeats 1000000 in
theorem jc_newLength {l : Launch} {D : va_G} {cB : ClassId} {A : Nat → Prop} {EV : State → Heap → Prop} (hg : ∀ w ∈ am_WS jsW, goodWord w = true) (hm : am_EVm A EV) (hB : ss_B A EV) {ws : va_W} {o g q : Nat} (ho : o ≤ 65536) (hg1 : g ≤ 65536) (hq : 0 < q ∧ q ≤ 65536) : Met l yJ8_newLength_cabcc (Cond.code yJ8_newLength_cabcc cJ8_newLength_cabcc 4 (some .int) :: am_WS jsW) ({ frames := 1, cells := 0, slots := 0, locals := 40 }) (js_Pc D cB A EV [.int (nI o), .int (nI g), .int (nI q)] (ws)) (js_Q D A (fun v w => v = some (.int (nI (o + (if g < q then q else g)))) ∧ w = ws)) (0) (0) A := by
  refine Met.ofW (cc := cJ8_newLength_cabcc) (maxL := 4) (ret := (some .int)) (by decide) rfl ?_
  intro p e s m args below meth c s₁ B hml hv
  obtain ⟨rfl, hP, hD, hK, hA0, hE0⟩ := hv
  have hx := B.exec
  have hb := B.bytes
  have hr := B.returns
  have hlocks := B.notSynchronized
  have hts0 := atoms_spec (ws := Cond.code yJ8_newLength_cabcc cJ8_newLength_cabcc 4 (some .int) :: am_WS jsW) B.pre
  have hts : ∀ w ∈ am_WS jsW, w.before ([.int (nI o), .int (nI g), .int (nI q)] : List Value).toArray s = true := fun w hw => hts0 w (List.mem_cons_of_mem _ hw)
  have hown : s.vm.findClass RJ8 = some m.cls := findClass_of_methodNamed B.named
  have hS : va_S A s.heap s.heap [] := va_S.rf
  have hl := lv_entry ([.int (nI o), .int (nI g), .int (nI q)]) (n := 4) (Nat.le_of_ble_eq_true rfl)
  rw [lg_entry_eq]
  generalize (lg_sl ([.int (nI o), .int (nI g), .int (nI q)]) ++ List.replicate (4 - (lg_sl ([.int (nI o), .int (nI g), .int (nI q)])).length) Slot.unset).toArray = ls at hl ⊢
  have hl : lv_has ls 4 [(0, .int (nI o)), (1, .int (nI g)), (2, .int (nI q))] := hl
  have hE : EV s s.heap := hE0
  have hA := hA0
  refine lv_iload_n hx hb (show decode cJ8_newLength_cabcc 0 = .ok (.iload_n 0, 1) by decide +kernel) rfl (lv_at hl 0 rfl) ?_
  refine lv_iload_n hx hb (show decode cJ8_newLength_cabcc 1 = .ok (.iload_n 1, 1) by decide +kernel) rfl (lv_at hl 1 rfl) ?_
  refine lv_iload_n hx hb (show decode cJ8_newLength_cabcc 2 = .ok (.iload_n 2, 1) by decide +kernel) rfl (lv_at hl 2 rfl) ?_
  refine va_mmax hx hb (hml.trans hl.1.symm) hown (hts _ (js_in 4 rfl)) (hts _ (js_in 5 rfl)) (hts _ (js_in 6 rfl)) (hts _ (js_in 7 rfl)) (Nat.le_of_ble_eq_true rfl) (Nat.le_of_ble_eq_true rfl) (by show 0 ≤ 0; omega) (by show 0 ≤ 0; omega) (show decode cJ8_newLength_cabcc 3 = .ok (.invokestatic 194, 3) by decide +kernel) ?_
  rw [show ((if (nI g) < (nI q) then (nI q) else (nI g)) : Int32) = nI (if g < q then q else g) from (js_mx (by omega) (by omega))]
  refine lv_iadd hx hb (show decode cJ8_newLength_cabcc 6 = .ok (.iadd, 1) by decide +kernel) ?_
  rw [show ((nI o + nI (if g < q then q else g)) : Int32) = nI (o + (if g < q then q else g)) from (nI_add _ _)]
  have hs9 : 0 < o + (if g < q then q else g) ∧ o + (if g < q then q else g) < 200000 := by split <;> omega
  refine lv_istore_n hx hb (show decode cJ8_newLength_cabcc 7 = .ok (.istore_n 3, 1) by decide +kernel) rfl hl (by decide) rfl (fun ls hl => ?_)
  have hl : lv_has ls 4 [(3, .int (nI (o + (if g < q then q else g)))), (0, .int (nI o)), (1, .int (nI g)), (2, .int (nI q))] := hl
  refine lv_iconst hx hb (v := 0) (show decode cJ8_newLength_cabcc 8 = .ok (.iconst 0, 1) by decide +kernel) (by decide) ?_
  refine lv_iload_n hx hb (show decode cJ8_newLength_cabcc 9 = .ok (.iload_n 3, 1) by decide +kernel) rfl (lv_at hl 0 rfl) ?_
  refine lv_icmp_ge hx hb (show decode cJ8_newLength_cabcc 10 = .ok (.if_icmp .ge 11, 3) by decide +kernel) (tgt := 21) (by decide) (fun h => absurd h (nI_nle hs9.1 (by omega))) (fun _ => ?_)
  refine lv_iload_n hx hb (show decode cJ8_newLength_cabcc 13 = .ok (.iload_n 3, 1) by decide +kernel) rfl (lv_at hl 0 rfl) ?_
  refine lv_ldc hx hb hown (hts _ (js_in 8 rfl)) (show decode cJ8_newLength_cabcc 14 = .ok (.ldc 200, 2) by decide +kernel) ?_
  refine lv_icmp_gt hx hb (show decode cJ8_newLength_cabcc 16 = .ok (.if_icmp .gt 5, 3) by decide +kernel) (tgt := 21) (by decide) (fun h => absurd h (show ¬ nI 2147483639 < nI (o + (if g < q then q else g)) from nI_nlt (by omega) (by decide))) (fun _ => ?_)
  refine lv_iload_n hx hb (show decode cJ8_newLength_cabcc 19 = .ok (.iload_n 3, 1) by decide +kernel) rfl (lv_at hl 0 rfl) ?_
  exact W.iret hx hb hr (fun t ht _ => ⟨⟨_, ws, rfl, ⟨rfl, rfl⟩, by rw [ht]; exact hP, hD⟩, hS.F ht⟩) hS.2.2 (show decode cJ8_newLength_cabcc 20 = .ok (.ireturn, 1) by decide +kernel) hlocks
set_option maxHeartbeats 1000000 in
theorem jc_copyOf {l : Launch} {D : va_G} {cB : ClassId} {A : Nat → Prop} {EV : State → Heap → Prop} (hg : ∀ w ∈ am_WS jsW, goodWord w = true) (hm : am_EVm A EV) (hB : ss_B A EV) {b d cap n : Nat} {ml : Int32} {f : Nat → Int32} {q : Nat} (hcq : cap < q) (hq : q ≤ 65536) (hf : js_ft f) : Met l yJ7_copyOf_9075b (Cond.code yJ7_copyOf_9075b cJ7_copyOf_9075b 3 (some (.array .byte)) :: am_WS jsW) ({ frames := 1, cells := 1, slots := q, locals := 60 }) (js_Pc D cB A EV [.ref d, .int (nI q)] (js_b cB b d cap n ml f)) (js_Q D A (fun v w => ∃ x, v = some (.ref x) ∧ w = js_b cB b d cap n ml f ++ [(x, .inl (cB, q, .inl (va_cpy f (fun _ => 0) 0 0 cap)))])) (1) (q) A := by
  refine Met.ofW (cc := cJ7_copyOf_9075b) (maxL := 3) (ret := (some (.array .byte))) (by decide) rfl ?_
  intro p e s m args below meth c s₁ B hml hv
  obtain ⟨rfl, hP, hD, hK, hA0, hE0⟩ := hv
  have hx := B.exec
  have hb := B.bytes
  have hr := B.returns
  have hlocks := B.notSynchronized
  have hts0 := atoms_spec (ws := Cond.code yJ7_copyOf_9075b cJ7_copyOf_9075b 3 (some (.array .byte)) :: am_WS jsW) B.pre
  have hts : ∀ w ∈ am_WS jsW, w.before ([.ref d, .int (nI q)] : List Value).toArray s = true := fun w hw => hts0 w (List.mem_cons_of_mem _ hw)
  have hown : s.vm.findClass RJ7 = some m.cls := findClass_of_methodNamed B.named
  have hS : va_S A s.heap s.heap [] := va_S.rf
  have hl := lv_entry ([.ref d, .int (nI q)]) (n := 3) (Nat.le_of_ble_eq_true rfl)
  rw [lg_entry_eq]
  generalize (lg_sl ([.ref d, .int (nI q)]) ++ List.replicate (3 - (lg_sl ([.ref d, .int (nI q)])).length) Slot.unset).toArray = ls at hl ⊢
  have hl : lv_has ls 3 [(0, .ref d), (1, .int (nI q))] := hl
  have hE : EV s s.heap := hE0
  have hA := hA0
  refine lv_iload_n hx hb (show decode cJ7_copyOf_9075b 0 = .ok (.iload_n 1, 1) by decide +kernel) rfl (lv_at hl 1 rfl) ?_
  refine lv_aload_n hx hb (show decode cJ7_copyOf_9075b 1 = .ok (.aload_n 0, 1) by decide +kernel) rfl (lv_at hl 0 rfl) ?_
  refine va_alen hx hb hK hP 1 0 rfl rfl (v := (nI cap)) rfl (show decode cJ7_copyOf_9075b 2 = .ok (.arraylength, 1) by decide +kernel) ?_
  refine lv_icmp_ne hx hb (show decode cJ7_copyOf_9075b 3 = .ok (.if_icmp .ne 11, 3) by decide +kernel) (tgt := 14) (by decide) (fun _ => ?_) (fun h => absurd ((nI_eq (by omega) (by omega)).mp h) (by omega))
  refine lv_iload_n hx hb (show decode cJ7_copyOf_9075b 14 = .ok (.iload_n 1, 1) by decide +kernel) rfl (lv_at hl 1 rfl) ?_
  refine va_newa hx hb (atype := .byte) (a0 := (q, .inl (fun _ => 0))) (hts _ (js_in 9 rfl)) rfl hK hP hD hS hA0 (fun _ => rfl) (nI_pos (by omega)) (nI_clamp (by omega)) (by show q * 1 ≤ 536870912; omega) (by show 0 + 1 ≤ 1; omega) (by show 0 + q ≤ q; omega) (show decode cJ7_copyOf_9075b 15 = .ok (.newarray .byte, 2) by decide +kernel) (fun x cA H hK1 hP hD hS => ?_)
  rw [js_cB hK hK1] at hP hD
  have hP : va_P D js_cl (js_b cB b d cap n ml f ++ [(x, .inl (cB, q, .inl (fun _ => 0)))]) H := hP
  have hD : va_D A (js_b cB b d cap n ml f ++ [(x, .inl (cB, q, .inl (fun _ => 0)))]) := hD
  have hE : EV s H := js_E hm hS hE0
  have hA := js_A hS hA0
  refine lv_astore_n hx hb (show decode cJ7_copyOf_9075b 17 = .ok (.astore_n 2, 1) by decide +kernel) rfl hl (by decide) rfl (fun ls hl => ?_)
  have hl : lv_has ls 3 [(2, .ref x), (0, .ref d), (1, .int (nI q))] := hl
  refine lv_aload_n hx hb (show decode cJ7_copyOf_9075b 18 = .ok (.aload_n 0, 1) by decide +kernel) rfl (lv_at hl 1 rfl) ?_
  refine lv_iconst hx hb (v := 0) (show decode cJ7_copyOf_9075b 19 = .ok (.iconst 0, 1) by decide +kernel) (by decide) ?_
  refine lv_aload_n hx hb (show decode cJ7_copyOf_9075b 20 = .ok (.aload_n 2, 1) by decide +kernel) rfl (lv_at hl 0 rfl) ?_
  refine lv_iconst hx hb (v := 0) (show decode cJ7_copyOf_9075b 21 = .ok (.iconst 0, 1) by decide +kernel) (by decide) ?_
  refine lv_aload_n hx hb (show decode cJ7_copyOf_9075b 22 = .ok (.aload_n 0, 1) by decide +kernel) rfl (lv_at hl 1 rfl) ?_
  refine va_alen hx hb hK hP 1 0 rfl rfl (v := (nI cap)) rfl (show decode cJ7_copyOf_9075b 23 = .ok (.arraylength, 1) by decide +kernel) ?_
  refine lv_iload_n hx hb (show decode cJ7_copyOf_9075b 24 = .ok (.iload_n 1, 1) by decide +kernel) rfl (lv_at hl 2 rfl) ?_
  refine va_mmin hx hb (hml.trans hl.1.symm) hown (hts _ (js_in 10 rfl)) (hts _ (js_in 11 rfl)) (hts _ (js_in 6 rfl)) (hts _ (js_in 12 rfl)) (Nat.le_of_ble_eq_true rfl) (Nat.le_of_ble_eq_true rfl) (by show 0 + 1 ≤ 1; omega) (by show 0 + q ≤ q; omega) (show decode cJ7_copyOf_9075b 25 = .ok (.invokestatic 304, 3) by decide +kernel) ?_
  rw [show ((if (nI q) < (nI cap) then (nI q) else (nI cap)) : Int32) = nI (if q < cap then q else cap) from (js_mn (by omega) (by omega))]
  rw [show (nI (if q < cap then q else cap) : Int32) = nI cap from (by rw [if_neg (by omega)])]
  refine va_copyi hx hb (hml.trans hl.1.symm) hown (hts _ (js_in 13 rfl)) (hts _ (js_in 14 rfl)) (hts _ (js_in 15 rfl)) (hts _ (js_in 16 rfl)) hK hP hD hS 1 2 0 0 rfl rfl rfl rfl rfl (by decide) (by decide) (nI_pos (by omega)) (by rw [nI_clamp (n := cap) (by omega)]; show 0 + cap ≤ cap; omega) (by rw [nI_clamp (n := cap) (by omega)]; show 0 + cap ≤ q; omega) (fun i _ => hf _) (Nat.le_of_ble_eq_true rfl) (Nat.le_of_ble_eq_true rfl) (show decode cJ7_copyOf_9075b 28 = .ok (.invokestatic 150, 3) by decide +kernel) (fun H locs hP hD hS => ?_)
  rw [nI_clamp (n := cap) (by omega)] at hP hD
  have hP : va_P D js_cl (js_b cB b d cap n ml f ++ [(x, .inl (cB, q, .inl (va_cpy f (fun _ => 0) 0 0 cap)))]) H := hP
  have hD : va_D A (js_b cB b d cap n ml f ++ [(x, .inl (cB, q, .inl (va_cpy f (fun _ => 0) 0 0 cap)))]) := hD
  have hE : EV s H := js_E hm hS hE0
  have hA := js_A hS hA0
  refine lv_aload_n hx hb (show decode cJ7_copyOf_9075b 31 = .ok (.aload_n 2, 1) by decide +kernel) rfl (lv_at hl 0 rfl) ?_
  refine W.widen (by show 0 + 1 ≤ 1; omega) (by show 0 + q ≤ q; omega) ?_
  exact W.aret hx hb hr (Or.inr ⟨_, rfl⟩) (Or.inr ⟨_, rfl⟩) (fun t ht _ => ⟨⟨_, js_b cB b d cap n ml f ++ [(x, .inl (cB, q, .inl (va_cpy f (fun _ => 0) 0 0 cap)))], rfl, ⟨_, rfl, rfl⟩, by rw [ht]; exact hP, hD⟩, hS.F ht⟩) hS.2.2 (show decode cJ7_copyOf_9075b 32 = .ok (.areturn, 1) by decide +kernel) hlocks
