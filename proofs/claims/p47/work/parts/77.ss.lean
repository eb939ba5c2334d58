/-! STRINGS: length, charAt, walked; written by program (wip/p47tools/l76.py) -/
/-- statics that the text's methods read -/
def ss_B (A : Nat → Prop) (EV : State → Heap → Prop) : Prop := (∀ (U : State) (H : Heap), EV U H → va_Z "java/lang/String" "COMPACT_STRINGS" "Z" (.int 1) A U H) ∧ ∀ (U : State) (H : Heap), EV U H → va_Zq "jdk/internal/util/Preconditions" "SIOOBE_FORMATTER" "Ljava/util/function/BiFunction;" A U H
theorem ev_Z {s0 : State} (hF : ev_F s0) {A : Nat → Prop} (hA : ∀ a : Nat, a < s0.heap.size → ¬ A a) : va_Z "java/lang/String" "COMPACT_STRINGS" "Z" (.int 1) A s0 s0.heap := by
  obtain ⟨A0, hT, hL⟩ := hF
  exact va_Zof (hT (.laysStatic "java/lang/String" "COMPACT_STRINGS" "Z") (am_tb_in 5 _ (List.mem_of_getElem? (i := 29) (by decide +kernel)))) (hT (.initialized "java/lang/String") (am_tb_in 1 _ (List.mem_of_getElem? (i := 17) (by decide +kernel)))) (va_eqi (hL (.eq (.static "java/lang/String" "COMPACT_STRINGS" "Z") (.int 1)) (List.mem_of_getElem? (i := 6) (by decide +kernel)))) hA
theorem ev_Q {s0 : State} (hF : ev_F s0) {A : Nat → Prop} (hA : ∀ a : Nat, a < s0.heap.size → ¬ A a) : va_Zq "jdk/internal/util/Preconditions" "SIOOBE_FORMATTER" "Ljava/util/function/BiFunction;" A s0 s0.heap := by
  obtain ⟨A0, hT, hL⟩ := hF
  exact va_Zqof (hT (.laysStatic "jdk/internal/util/Preconditions" "SIOOBE_FORMATTER" "Ljava/util/function/BiFunction;") (am_tb_in 5 _ (List.mem_of_getElem? (i := 109) (by decide +kernel)))) (hT (.initialized "jdk/internal/util/Preconditions") (am_tb_in 1 _ (List.mem_of_getElem? (i := 27) (by decide +kernel)))) (hL (.isRef (.static "jdk/internal/util/Preconditions" "SIOOBE_FORMATTER" "Ljava/util/function/BiFunction;")) (List.mem_of_getElem? (i := 7) (by decide +kernel))) hA
theorem ss_Bo {s0 : State} (hF : ev_F s0) {A : Nat → Prop} {EV : State → Heap → Prop} (hB : ev_B s0 A EV) : ss_B A EV :=
  ⟨fun U H hE => va_Z.moved (hB.2 U H hE).1.alike ((ev_Z hF hB.1).kept (ev_q hB hE)), fun U H hE => va_Zq.moved (hB.2 U H hE).1.alike ((ev_Q hF hB.1).kept (ev_q hB hE))⟩
def ssW : List Cond := [Cond.code yJ0_length_8abf5 cJ0_length_8abf5 1 (some .int), .fieldLink RJ0 9 "java/lang/String" "value" "[B", .methodLink RJ0 335 yJ0_coder_7d493, .instanceMethod yJ0_coder_7d493, .selects RJ0 yJ0_coder_7d493 yJ0_coder_7d493, .code yJ0_coder_7d493 cJ0_coder_7d493 1 (some .byte), .fieldLink RJ0 38 "java/lang/String" "COMPACT_STRINGS" "Z", .fieldLink RJ0 15 "java/lang/String" "coder" "B", .initialized RJ0, .instanceMethod yJ0_length_8abf5, .selects RJ0 yJ0_length_8abf5 yJ0_length_8abf5,
  .instanceMethod yJ0_charAt_5068e, .selects RJ0 yJ0_charAt_5068e yJ0_charAt_5068e, .code yJ0_charAt_5068e cJ0_charAt_5068e 2 (some .char), .methodLink RJ0 492 yJ0_isLatin1_aae02, .instanceMethod yJ0_isLatin1_aae02, .selects RJ0 yJ0_isLatin1_aae02 yJ0_isLatin1_aae02, .code yJ0_isLatin1_aae02 cJ0_isLatin1_aae02 1 (some .boolean), .methodLink RJ0 495 yJ1_charAt_3b067, .static yJ1_charAt_3b067, .initialized RJ1, .code yJ1_charAt_3b067 cJ1_charAt_3b067 2 (some .char), .methodLink RJ1 9 yJ0_checkIndex_df160, .static yJ0_checkIndex_df160, .code yJ0_checkIndex_df160 cJ0_checkIndex_df160 2 none, .fieldLink RJ0 1053 "jdk/internal/util/Preconditions" "SIOOBE_FORMATTER" "Ljava/util/function/BiFunction;", .methodLink RJ0 1059 yJ3_checkIndex_8e157, .static yJ3_checkIndex_8e157, .initialized RJ3, .code yJ3_checkIndex_8e157 cJ3_checkIndex_8e157 3 (some .int)]
theorem ssW_in : ∀ w ∈ ssW, w ∈ (List.range 63).flatMap am_Wc := by decide +kernel
theorem ss_in {ex : List Cond} (i : Nat) {w : Cond} (h : ssW[i]? = some w) : w ∈ am_WS ex := List.mem_append_left _ (ssW_in w (List.mem_of_getElem? h))
def ss_Q (v : Option Value) : Array Value → State → Outcome → State → Prop := fun _ st o t => o = .returned v ∧ t.heap = st.heap
abbrev ss_N : Addr → Prop := fun _ => False
def ss_E (EV : State → Heap → Prop) (As : List Value) : Array Value → State → Prop := fun a U => a = As.toArray ∧ EV U U.heap
theorem ss_fb {A : Nat → Prop} {EV : State → Heap → Prop} (hm : am_EVm A EV) {As : List Value} : FrameBlind (ss_E EV As) := fun a U g mk q => ⟨q.1, hm.1 U (U.calling g mk a) _ (State.WarmedH.refl U) q.2⟩
theorem ss_pre {A : Nat → Prop} {EV : State → Heap → Prop} (hm : am_EVm A EV) {s : State} {As : List Value} {H : Heap} (hE : EV s H) : ∀ U : State, U.heap = H → s.WarmedH U.vm → ss_E EV As As.toArray U := fun U hU hW => ⟨rfl, by rw [hU]; exact hm.1 s U H hW hE⟩
section SSR
variable {p : Program} {l : Launch} {e : Env} {R : Room} {s : State} {m : MethodId} {args : Array Value} {below : List Frame} {meth : Method} {c : Code} {H : Heap} {locs : List Loc} {cells slots : Nat} {Q : State → Prop} {pc : Nat} {ls : Array Slot} {st0 rest : List Value} {a : Array Value}
/-- a call that changes nothing -/
theorem ss_call {v : Option Value} (hr : va_Run p l e R s m args below meth c H locs cells slots 0 0 (F0 m pc ls st0) rest (ss_Q v a) ss_N) (k : W p l e R s m args below meth c H locs cells slots Q (F0 m (pc + 3) ls (v.toList ++ rest))) : W p l e R s m args below meth c H locs cells slots Q (F0 m pc ls st0) := by
  intro T hT X
  obtain ⟨v9, st₀, t, T', L, h0, X', hL, e1, e2, ⟨hv, hh⟩, st⟩ := hr T hT X
  cases hv
  have hL0 : L = [] := List.eq_nil_iff_forall_not_mem.mpr (fun q hq => hL q hq)
  subst hL0
  rw [List.append_nil] at X'
  obtain ⟨t2, a1, b1⟩ := k T' (e1.trans (hh.trans h0)) X'
  exact ⟨t2, st t2 a1, b1⟩
end SSR
section SSM
variable {l : Launch} {ex : List Cond} {A : Nat → Prop} {EV : State → Heap → Prop}
/-- Preconditions.checkIndex -/
theorem ss_c1 {i n : Int32} {w : Value} (hw : w = .null ∨ ∃ q, w = .ref q) (h1 : ¬ i < 0) (h2 : i < n) : Met l yJ3_checkIndex_8e157 (Cond.code yJ3_checkIndex_8e157 cJ3_checkIndex_8e157 3 (some .int) :: am_WS ex) ({ frames := 0, cells := 0, slots := 0, locals := 0 }) (ss_E EV [.int i, .int n, w]) (ss_Q (some (.int i))) 0 0 ss_N := by
  refine Met.ofW (cc := cJ3_checkIndex_8e157) (maxL := 3) (ret := (some .int)) (by decide) rfl ?_
  intro p e s m args below meth c s₁ B hml hv
  obtain ⟨rfl, hE⟩ := hv
  have hx := B.exec
  have hb := B.bytes
  have hr := B.returns
  have hlocks := B.notSynchronized
  have body : ∀ ls : Array Slot, ls[0]? = some (.val (.int i)) → ls[1]? = some (.val (.int n)) → W p l e (headSpec (Cond.code yJ3_checkIndex_8e157 cJ3_checkIndex_8e157 3 (some .int) :: am_WS ex) ({ frames := 0, cells := 0, slots := 0, locals := 0 })).room s m [.int i, .int n, w].toArray below meth c s.heap [] 0 0 (MQ below (ss_Q (some (.int i))) [.int i, .int n, w].toArray s 0 0 ss_N) (F0 m 0 ls []) := by
    intro ls l0 l1
    refine lv_iload_n hx hb (show decode cJ3_checkIndex_8e157 0 = .ok (.iload_n 0, 1) by decide +kernel) rfl l0 ?_
    refine lv_if_lt hx hb (show decode cJ3_checkIndex_8e157 1 = .ok (.ifCond .lt 8, 3) by decide +kernel) (tgt := 9) (by decide) (fun h => absurd h h1) (fun _ => ?_)
    refine lv_iload_n hx hb (show decode cJ3_checkIndex_8e157 4 = .ok (.iload_n 0, 1) by decide +kernel) rfl l0 ?_
    refine lv_iload_n hx hb (show decode cJ3_checkIndex_8e157 5 = .ok (.iload_n 1, 1) by decide +kernel) rfl l1 ?_
    refine lv_icmp_lt hx hb (show decode cJ3_checkIndex_8e157 6 = .ok (.if_icmp .lt 10, 3) by decide +kernel) (tgt := 16) (by decide) (fun _ => ?_) (fun h => absurd h2 h)
    refine lv_iload_n hx hb (show decode cJ3_checkIndex_8e157 16 = .ok (.iload_n 0, 1) by decide +kernel) rfl l0 ?_
    exact W.iret hx hb hr (fun t ht _ => ⟨rfl, ht⟩) (fun q hq => absurd hq List.not_mem_nil) (show decode cJ3_checkIndex_8e157 17 = .ok (.ireturn, 1) by decide +kernel) hlocks
  rw [lg_entry_eq]
  rcases hw with rfl | ⟨q, rfl⟩
  · have hl := lv_entry ([.int i, .int n, .null]) (n := 3) (Nat.le_of_ble_eq_true rfl)
    generalize (lg_sl ([.int i, .int n, .null]) ++ List.replicate (3 - (lg_sl ([.int i, .int n, .null])).length) Slot.unset).toArray = ls at hl ⊢
    have hl : lv_has ls 3 [(0, .int i), (1, .int n), (2, .null)] := hl
    exact body ls (lv_at hl 0 rfl) (lv_at hl 1 rfl)
  · have hl := lv_entry ([.int i, .int n, .ref q]) (n := 3) (Nat.le_of_ble_eq_true rfl)
    generalize (lg_sl ([.int i, .int n, .ref q]) ++ List.replicate (3 - (lg_sl ([.int i, .int n, .ref q])).length) Slot.unset).toArray = ls at hl ⊢
    have hl : lv_has ls 3 [(0, .int i), (1, .int n), (2, .ref q)] := hl
    exact body ls (lv_at hl 0 rfl) (lv_at hl 1 rfl)
/-- String.checkIndex -/
theorem ss_c2 (hg : ∀ w ∈ am_WS ex, goodWord w = true) (hm : am_EVm A EV) (hB : ss_B A EV) {i n : Int32} (h1 : ¬ i < 0) (h2 : i < n) : Met l yJ0_checkIndex_df160 (Cond.code yJ0_checkIndex_df160 cJ0_checkIndex_df160 2 none :: am_WS ex) ({ frames := 1, cells := 0, slots := 0, locals := 22 }) (ss_E EV [.int i, .int n]) (ss_Q none) 0 0 ss_N := by
  refine Met.ofW (cc := cJ0_checkIndex_df160) (maxL := 2) (ret := none) (by decide) rfl ?_
  intro p e s m args below meth c s₁ B hml hv
  obtain ⟨rfl, hE⟩ := hv
  have hx := B.exec
  have hb := B.bytes
  have hr := B.returns
  have hlocks := B.notSynchronized
  have hts0 := atoms_spec (ws := Cond.code yJ0_checkIndex_df160 cJ0_checkIndex_df160 2 none :: am_WS ex) B.pre
  have hts : ∀ w ∈ am_WS ex, w.before [Value.int i, .int n].toArray s = true := fun w hw => hts0 w (List.mem_cons_of_mem _ hw)
  have hown : s.vm.findClass RJ0 = some m.cls := findClass_of_methodNamed B.named
  have hS : va_S A s.heap s.heap [] := va_S.rf
  have hZ := hB.2 _ _ hE
  have hl := lv_entry ([.int i, .int n]) (n := 2) (Nat.le_of_ble_eq_true rfl)
  rw [lg_entry_eq]
  generalize (lg_sl ([.int i, .int n]) ++ List.replicate (2 - (lg_sl ([.int i, .int n])).length) Slot.unset).toArray = ls at hl ⊢
  have hl : lv_has ls 2 [(0, .int i), (1, .int n)] := hl
  refine lv_iload_n hx hb (show decode cJ0_checkIndex_df160 0 = .ok (.iload_n 0, 1) by decide +kernel) rfl (lv_at hl 0 rfl) ?_
  refine lv_iload_n hx hb (show decode cJ0_checkIndex_df160 1 = .ok (.iload_n 1, 1) by decide +kernel) rfl (lv_at hl 1 rfl) ?_
  have key : ∀ w : Value, (w = .null ∨ ∃ q, w = .ref q) → va_Z "jdk/internal/util/Preconditions" "SIOOBE_FORMATTER" "Ljava/util/function/BiFunction;" w A s s.heap → W p l e (headSpec (Cond.code yJ0_checkIndex_df160 cJ0_checkIndex_df160 2 none :: am_WS ex) ({ frames := 1, cells := 0, slots := 0, locals := 22 })).room s m [.int i, .int n].toArray below meth c s.heap [] 0 0 (MQ below (ss_Q none) [.int i, .int n].toArray s 0 0 ss_N) (F0 m 2 ls [.int n, .int i]) := by
    intro w hw hZ
    refine va_gets hx hb hZ hS hown (hts (.fieldLink RJ0 1053 "jdk/internal/util/Preconditions" "SIOOBE_FORMATTER" "Ljava/util/function/BiFunction;") (ss_in 25 rfl)) (fun _ h => h) (show decode cJ0_checkIndex_df160 2 = .ok (.getstatic 1053, 3) by decide +kernel) ?_
    refine ss_call (va_runS (cc := cJ0_checkIndex_df160) (As := [.int i, .int n, w]) (rest := []) ⟨hx, hb, hml, hown, hts⟩ (ss_c1 (ex := ex) (EV := EV) hw h1 h2) ⟨callB_of 3 hts (am_goodIn hg (fun w hw => by rcases List.mem_cons.mp hw with rfl | hw; exact ss_in 29 rfl; exact hw)) rfl rfl rfl (hts _ (ss_in 28 rfl)) (hts (.methodLink RJ0 1059 yJ3_checkIndex_8e157) (ss_in 26 rfl)) (by decide +kernel) ⟨Nat.le_refl _, Nat.le_refl _⟩, hts _ (ss_in 27 rfl)⟩ ⟨ss_fb hm, ss_pre hm hE⟩ rfl rfl hl.1 rfl (lv_room (Nat.zero_le _)) (show decode cJ0_checkIndex_df160 5 = .ok (.invokestatic 1059, 3) by decide +kernel) ⟨Nat.le_refl _, Nat.le_refl _⟩) ?_
    refine lv_pop hx hb (show decode cJ0_checkIndex_df160 8 = .ok (.pop, 1) by decide +kernel) rfl ?_
    exact W.vret hx hb hr (fun t ht _ => ⟨rfl, ht⟩) (fun q hq => absurd hq List.not_mem_nil) (show decode cJ0_checkIndex_df160 9 = .ok (.return_, 1) by decide +kernel) hlocks
  rcases hZ with hZ | ⟨t, hZ⟩
  · exact key .null (Or.inl rfl) hZ
  · exact key (.ref t) (Or.inr ⟨t, rfl⟩) hZ
/-- StringLatin1.charAt -/
theorem ss_c3 (hg : ∀ w ∈ am_WS ex, goodWord w = true) (hm : am_EVm A EV) (hB : ss_B A EV) {i : Int32} {v N : Nat} {f : Nat → Int32} {r : Int32} (h1 : ¬ i < 0) (h2 : i < Int32.ofNat N) (hin : vp_in i N) (hT : ∀ (U : State) (H : Heap), EV U H → va_T .byte v N (fun j => .int (f j)) A U H) (hr9 : ((f i.toNatClampNeg &&& 255).toUInt32 % 65536).toInt32 = r) (hn9 : narrow .char (.int r) = .int r) : Met l yJ1_charAt_3b067 (Cond.code yJ1_charAt_3b067 cJ1_charAt_3b067 2 (some .char) :: am_WS ex) ({ frames := 2, cells := 0, slots := 0, locals := 43 }) (ss_E EV [.ref v, .int i]) (ss_Q (some (.int r))) 0 0 ss_N := by
  refine Met.ofW (cc := cJ1_charAt_3b067) (maxL := 2) (ret := (some .char)) (by decide) rfl ?_
  intro p e s m args below meth c s₁ B hml hv
  obtain ⟨rfl, hE⟩ := hv
  have hx := B.exec
  have hb := B.bytes
  have hr := B.returns
  have hlocks := B.notSynchronized
  have hts0 := atoms_spec (ws := Cond.code yJ1_charAt_3b067 cJ1_charAt_3b067 2 (some .char) :: am_WS ex) B.pre
  have hts : ∀ w ∈ am_WS ex, w.before [Value.ref v, .int i].toArray s = true := fun w hw => hts0 w (List.mem_cons_of_mem _ hw)
  have hown : s.vm.findClass RJ1 = some m.cls := findClass_of_methodNamed B.named
  have hS : va_S A s.heap s.heap [] := va_S.rf
  have hT := hT _ _ hE
  have hl := lv_entry ([.ref v, .int i]) (n := 2) (Nat.le_of_ble_eq_true rfl)
  rw [lg_entry_eq]
  generalize (lg_sl ([.ref v, .int i]) ++ List.replicate (2 - (lg_sl ([.ref v, .int i])).length) Slot.unset).toArray = ls at hl ⊢
  have hl : lv_has ls 2 [(0, .ref v), (1, .int i)] := hl
  refine lv_iload_n hx hb (show decode cJ1_charAt_3b067 0 = .ok (.iload_n 1, 1) by decide +kernel) rfl (lv_at hl 1 rfl) ?_
  refine lv_aload_n hx hb (show decode cJ1_charAt_3b067 1 = .ok (.aload_n 0, 1) by decide +kernel) rfl (lv_at hl 0 rfl) ?_
  refine va_tlen hx hb hT hS rfl (show decode cJ1_charAt_3b067 2 = .ok (.arraylength, 1) by decide +kernel) ?_
  refine ss_call (va_runS (cc := cJ1_charAt_3b067) (As := [.int i, .int (Int32.ofNat N)]) (rest := []) ⟨hx, hb, hml, hown, hts⟩ (ss_c2 hg hm hB h1 h2) ⟨callB_of 2 hts (am_goodIn hg (fun w hw => by rcases List.mem_cons.mp hw with rfl | hw; exact ss_in 24 rfl; exact hw)) rfl rfl rfl (hts _ (ss_in 8 rfl)) (hts (.methodLink RJ1 9 yJ0_checkIndex_df160) (ss_in 22 rfl)) (by decide +kernel) ⟨Nat.le_refl _, Nat.le_refl _⟩, hts _ (ss_in 23 rfl)⟩ ⟨ss_fb hm, ss_pre hm hE⟩ rfl rfl hl.1 rfl (lv_room (Nat.zero_le _)) (show decode cJ1_charAt_3b067 3 = .ok (.invokestatic 9, 3) by decide +kernel) ⟨Nat.le_refl _, Nat.le_refl _⟩) ?_
  refine lv_aload_n hx hb (show decode cJ1_charAt_3b067 6 = .ok (.aload_n 0, 1) by decide +kernel) rfl (lv_at hl 0 rfl) ?_
  refine lv_iload_n hx hb (show decode cJ1_charAt_3b067 7 = .ok (.iload_n 1, 1) by decide +kernel) rfl (lv_at hl 1 rfl) ?_
  refine va_tb hx hb hT hS hin rfl (show decode cJ1_charAt_3b067 8 = .ok (.baload, 1) by decide +kernel) ?_
  refine lv_sipush hx hb (v := 255) (show decode cJ1_charAt_3b067 9 = .ok (.sipush 255, 3) by decide +kernel) (by decide) ?_
  refine lv_iand hx hb (show decode cJ1_charAt_3b067 12 = .ok (.iand, 1) by decide +kernel) ?_
  refine lv_i2c hx hb (show decode cJ1_charAt_3b067 13 = .ok (.i2c, 1) by decide +kernel) hr9 ?_
  exact W.zret hx hb hr hn9 (fun t ht _ => ⟨rfl, ht⟩) (fun q hq => absurd hq List.not_mem_nil) (show decode cJ1_charAt_3b067 14 = .ok (.ireturn, 1) by decide +kernel) hlocks
/-- String.isLatin1, String.coder -/
theorem ss_c4 (hg : ∀ w ∈ am_WS ex, goodWord w = true) (hm : am_EVm A EV) (hB : ss_B A EV) {a : Nat} (hO : ∀ (U : State) (H : Heap), EV U H → va_OF "java/lang/String" "coder" "B" (.int 0) a A U H) : Met l yJ0_isLatin1_aae02 (Cond.code yJ0_isLatin1_aae02 cJ0_isLatin1_aae02 1 (some .boolean) :: am_WS ex) ({ frames := 0, cells := 0, slots := 0, locals := 0 }) (ss_E EV [.ref a]) (ss_Q (some (.int 1))) 0 0 ss_N := by
  refine Met.ofW (cc := cJ0_isLatin1_aae02) (maxL := 1) (ret := (some .boolean)) (by decide) rfl ?_
  intro p e s m args below meth c s₁ B hml hv
  obtain ⟨rfl, hE⟩ := hv
  have hx := B.exec
  have hb := B.bytes
  have hr := B.returns
  have hlocks := B.notSynchronized
  have hts0 := atoms_spec (ws := Cond.code yJ0_isLatin1_aae02 cJ0_isLatin1_aae02 1 (some .boolean) :: am_WS ex) B.pre
  have hts : ∀ w ∈ am_WS ex, w.before [Value.ref a].toArray s = true := fun w hw => hts0 w (List.mem_cons_of_mem _ hw)
  have hown : s.vm.findClass RJ0 = some m.cls := findClass_of_methodNamed B.named
  have hS : va_S A s.heap s.heap [] := va_S.rf
  have hZ := hB.1 _ _ hE
  have hO := hO _ _ hE
  have hl := lv_entry ([.ref a]) (n := 1) (Nat.le_of_ble_eq_true rfl)
  rw [lg_entry_eq]
  generalize (lg_sl ([.ref a]) ++ List.replicate (1 - (lg_sl ([.ref a])).length) Slot.unset).toArray = ls at hl ⊢
  have hl : lv_has ls 1 [(0, .ref a)] := hl
  refine va_gets hx hb hZ hS hown (hts (.fieldLink RJ0 38 "java/lang/String" "COMPACT_STRINGS" "Z") (ss_in 6 rfl)) (fun _ h => h) (show decode cJ0_isLatin1_aae02 0 = .ok (.getstatic 38, 3) by decide +kernel) ?_
  refine lv_if_eq hx hb (show decode cJ0_isLatin1_aae02 3 = .ok (.ifCond .eq 14, 3) by decide +kernel) (tgt := 17) (by decide) (fun h => absurd h (by decide)) (fun _ => ?_)
  refine lv_aload_n hx hb (show decode cJ0_isLatin1_aae02 6 = .ok (.aload_n 0, 1) by decide +kernel) rfl (lv_at hl 0 rfl) ?_
  refine vk_getf hx hb hO hS hown (hts (.fieldLink RJ0 15 "java/lang/String" "coder" "B") (ss_in 7 rfl)) (fun _ h => h) (show decode cJ0_isLatin1_aae02 7 = .ok (.getfield 15, 3) by decide +kernel) ?_
  refine lv_if_ne hx hb (show decode cJ0_isLatin1_aae02 10 = .ok (.ifCond .ne 7, 3) by decide +kernel) (tgt := 17) (by decide) (fun h => absurd rfl h) (fun _ => ?_)
  refine lv_iconst hx hb (v := 1) (show decode cJ0_isLatin1_aae02 13 = .ok (.iconst 1, 1) by decide +kernel) (by decide) ?_
  refine lv_goto hx hb (show decode cJ0_isLatin1_aae02 14 = .ok (.goto 4, 3) by decide +kernel) (tgt := 18) (by decide) ?_
  exact W.zret hx hb hr (by decide) (fun t ht _ => ⟨rfl, ht⟩) (fun q hq => absurd hq List.not_mem_nil) (show decode cJ0_isLatin1_aae02 18 = .ok (.ireturn, 1) by decide +kernel) hlocks
theorem ss_c5 (hg : ∀ w ∈ am_WS ex, goodWord w = true) (hm : am_EVm A EV) (hB : ss_B A EV) {a : Nat} (hO : ∀ (U : State) (H : Heap), EV U H → va_OF "java/lang/String" "coder" "B" (.int 0) a A U H) : Met l yJ0_coder_7d493 (Cond.code yJ0_coder_7d493 cJ0_coder_7d493 1 (some .byte) :: am_WS ex) ({ frames := 0, cells := 0, slots := 0, locals := 0 }) (ss_E EV [.ref a]) (ss_Q (some (.int 0))) 0 0 ss_N := by
  refine Met.ofW (cc := cJ0_coder_7d493) (maxL := 1) (ret := (some .byte)) (by decide) rfl ?_
  intro p e s m args below meth c s₁ B hml hv
  obtain ⟨rfl, hE⟩ := hv
  have hx := B.exec
  have hb := B.bytes
  have hr := B.returns
  have hlocks := B.notSynchronized
  have hts0 := atoms_spec (ws := Cond.code yJ0_coder_7d493 cJ0_coder_7d493 1 (some .byte) :: am_WS ex) B.pre
  have hts : ∀ w ∈ am_WS ex, w.before [Value.ref a].toArray s = true := fun w hw => hts0 w (List.mem_cons_of_mem _ hw)
  have hown : s.vm.findClass RJ0 = some m.cls := findClass_of_methodNamed B.named
  have hS : va_S A s.heap s.heap [] := va_S.rf
  have hZ := hB.1 _ _ hE
  have hO := hO _ _ hE
  have hl := lv_entry ([.ref a]) (n := 1) (Nat.le_of_ble_eq_true rfl)
  rw [lg_entry_eq]
  generalize (lg_sl ([.ref a]) ++ List.replicate (1 - (lg_sl ([.ref a])).length) Slot.unset).toArray = ls at hl ⊢
  have hl : lv_has ls 1 [(0, .ref a)] := hl
  refine va_gets hx hb hZ hS hown (hts (.fieldLink RJ0 38 "java/lang/String" "COMPACT_STRINGS" "Z") (ss_in 6 rfl)) (fun _ h => h) (show decode cJ0_coder_7d493 0 = .ok (.getstatic 38, 3) by decide +kernel) ?_
  refine lv_if_eq hx hb (show decode cJ0_coder_7d493 3 = .ok (.ifCond .eq 10, 3) by decide +kernel) (tgt := 13) (by decide) (fun h => absurd h (by decide)) (fun _ => ?_)
  refine lv_aload_n hx hb (show decode cJ0_coder_7d493 6 = .ok (.aload_n 0, 1) by decide +kernel) rfl (lv_at hl 0 rfl) ?_
  refine vk_getf hx hb hO hS hown (hts (.fieldLink RJ0 15 "java/lang/String" "coder" "B") (ss_in 7 rfl)) (fun _ h => h) (show decode cJ0_coder_7d493 7 = .ok (.getfield 15, 3) by decide +kernel) ?_
  refine lv_goto hx hb (show decode cJ0_coder_7d493 10 = .ok (.goto 4, 3) by decide +kernel) (tgt := 14) (by decide) ?_
  exact W.zret hx hb hr (by decide) (fun t ht _ => ⟨rfl, ht⟩) (fun q hq => absurd hq List.not_mem_nil) (show decode cJ0_coder_7d493 14 = .ok (.ireturn, 1) by decide +kernel) hlocks
theorem ss_recv {ty : String} {a v : Nat} {s : State} {H : Heap} (hS : ∀ (U : State) (H : Heap), EV U H → ev_S A ty a v U H) (hE : EV s H) : ∃ cell : Cell, H[a]? = some cell ∧ cell.vm.isStatics = false ∧ s.vm.findClass RJ0 = some cell.cls := by
  obtain ⟨cell, h1, h2, h3, -⟩ := (hS s H hE).1
  exact ⟨cell, h1, h2, h3⟩
/-- String.length -/
theorem ss_c6 (hg : ∀ w ∈ am_WS ex, goodWord w = true) (hm : am_EVm A EV) (hB : ss_B A EV) {ty : String} {a v : Nat} (hS0 : ∀ (U : State) (H : Heap), EV U H → ev_S A ty a v U H) (h100 : ty.length < 100) : Met l yJ0_length_8abf5 (Cond.code yJ0_length_8abf5 cJ0_length_8abf5 1 (some .int) :: am_WS ex) ({ frames := 1, cells := 0, slots := 0, locals := 20 }) (ss_E EV [.ref a]) (ss_Q (some (.int (Int32.ofNat ty.length)))) 0 0 ss_N := by
  refine Met.ofW (cc := cJ0_length_8abf5) (maxL := 1) (ret := (some .int)) (by decide) rfl ?_
  intro p e s m args below meth c s₁ B hml hv
  obtain ⟨rfl, hE⟩ := hv
  have hx := B.exec
  have hb := B.bytes
  have hr := B.returns
  have hlocks := B.notSynchronized
  have hts0 := atoms_spec (ws := Cond.code yJ0_length_8abf5 cJ0_length_8abf5 1 (some .int) :: am_WS ex) B.pre
  have hts : ∀ w ∈ am_WS ex, w.before [Value.ref a].toArray s = true := fun w hw => hts0 w (List.mem_cons_of_mem _ hw)
  have hown : s.vm.findClass RJ0 = some m.cls := findClass_of_methodNamed B.named
  have hS : va_S A s.heap s.heap [] := va_S.rf
  obtain ⟨-, -, hV, hT⟩ := hS0 _ _ hE
  have hl := lv_entry ([.ref a]) (n := 1) (Nat.le_of_ble_eq_true rfl)
  rw [lg_entry_eq]
  generalize (lg_sl ([.ref a]) ++ List.replicate (1 - (lg_sl ([.ref a])).length) Slot.unset).toArray = ls at hl ⊢
  have hl : lv_has ls 1 [(0, .ref a)] := hl
  refine lv_aload_n hx hb (show decode cJ0_length_8abf5 0 = .ok (.aload_n 0, 1) by decide +kernel) rfl (lv_at hl 0 rfl) ?_
  refine vk_getf hx hb hV hS hown (hts (.fieldLink RJ0 9 "java/lang/String" "value" "[B") (ss_in 1 rfl)) (fun _ h => h) (show decode cJ0_length_8abf5 1 = .ok (.getfield 9, 3) by decide +kernel) ?_
  refine va_tlen hx hb hT hS rfl (show decode cJ0_length_8abf5 4 = .ok (.arraylength, 1) by decide +kernel) ?_
  refine lv_aload_n hx hb (show decode cJ0_length_8abf5 5 = .ok (.aload_n 0, 1) by decide +kernel) rfl (lv_at hl 0 rfl) ?_
  refine ss_call (va_runV (cc := cJ0_length_8abf5) (C := RJ0) (As := []) (b := a) (rest := [.int (Int32.ofNat ty.length)]) ⟨hx, hb, hml, hown, hts⟩ (ss_c5 hg hm hB (fun U H h => (hS0 U H h).2.1)) ⟨callB_of 0 hts (am_goodIn hg (fun w hw => by rcases List.mem_cons.mp hw with rfl | hw; exact ss_in 5 rfl; exact hw)) rfl rfl rfl (hts _ (ss_in 8 rfl)) (hts (.methodLink RJ0 335 yJ0_coder_7d493) (ss_in 2 rfl)) (by decide +kernel) ⟨Nat.le_refl _, Nat.le_refl _⟩, hts _ (ss_in 3 rfl), hts _ (ss_in 4 rfl)⟩ ⟨ss_fb hm, ss_recv hS0 hE, ss_pre hm hE⟩ rfl rfl hl.1 rfl (lv_room (show (1 : Nat) ≤ 8 from by decide)) (show decode cJ0_length_8abf5 6 = .ok (.invokevirtual 335, 3) by decide +kernel) ⟨Nat.le_refl _, Nat.le_refl _⟩) ?_
  refine lv_ishr hx hb (show decode cJ0_length_8abf5 9 = .ok (.ishr, 1) by decide +kernel) ?_
  have sh : ∀ n, n < 100 → Int32.ofNat n >>> ((0 : Int32) &&& 31) = Int32.ofNat n := by decide +kernel
  rw [sh _ h100]
  exact W.iret hx hb hr (fun t ht _ => ⟨rfl, ht⟩) (fun q hq => absurd hq List.not_mem_nil) (show decode cJ0_length_8abf5 10 = .ok (.ireturn, 1) by decide +kernel) hlocks
/-- String.charAt -/
theorem ss_c7 (hg : ∀ w ∈ am_WS ex, goodWord w = true) (hm : am_EVm A EV) (hB : ss_B A EV) {ty : String} {a v : Nat} {i r : Int32} (hS0 : ∀ (U : State) (H : Heap), EV U H → ev_S A ty a v U H) (h1 : ¬ i < 0) (h2 : i < Int32.ofNat ty.length) (hin : vp_in i ty.length) (hr9 : (((ev_by ty).getD i.toNatClampNeg 0 &&& 255).toUInt32 % 65536).toInt32 = r) (hn9 : narrow .char (.int r) = .int r) : Met l yJ0_charAt_5068e (Cond.code yJ0_charAt_5068e cJ0_charAt_5068e 2 (some .char) :: am_WS ex) ({ frames := 3, cells := 0, slots := 0, locals := 64 }) (ss_E EV [.ref a, .int i]) (ss_Q (some (.int r))) 0 0 ss_N := by
  refine Met.ofW (cc := cJ0_charAt_5068e) (maxL := 2) (ret := (some .char)) (by decide) rfl ?_
  intro p e s m args below meth c s₁ B hml hv
  obtain ⟨rfl, hE⟩ := hv
  have hx := B.exec
  have hb := B.bytes
  have hr := B.returns
  have hlocks := B.notSynchronized
  have hts0 := atoms_spec (ws := Cond.code yJ0_charAt_5068e cJ0_charAt_5068e 2 (some .char) :: am_WS ex) B.pre
  have hts : ∀ w ∈ am_WS ex, w.before [Value.ref a, .int i].toArray s = true := fun w hw => hts0 w (List.mem_cons_of_mem _ hw)
  have hown : s.vm.findClass RJ0 = some m.cls := findClass_of_methodNamed B.named
  have hS : va_S A s.heap s.heap [] := va_S.rf
  obtain ⟨-, -, hV, hT⟩ := hS0 _ _ hE
  have hl := lv_entry ([.ref a, .int i]) (n := 2) (Nat.le_of_ble_eq_true rfl)
  rw [lg_entry_eq]
  generalize (lg_sl ([.ref a, .int i]) ++ List.replicate (2 - (lg_sl ([.ref a, .int i])).length) Slot.unset).toArray = ls at hl ⊢
  have hl : lv_has ls 2 [(0, .ref a), (1, .int i)] := hl
  refine lv_aload_n hx hb (show decode cJ0_charAt_5068e 0 = .ok (.aload_n 0, 1) by decide +kernel) rfl (lv_at hl 0 rfl) ?_
  refine ss_call (va_runV (cc := cJ0_charAt_5068e) (C := RJ0) (As := []) (b := a) (rest := []) ⟨hx, hb, hml, hown, hts⟩ (ss_c4 hg hm hB (fun U H h => (hS0 U H h).2.1)) ⟨callB_of 0 hts (am_goodIn hg (fun w hw => by rcases List.mem_cons.mp hw with rfl | hw; exact ss_in 17 rfl; exact hw)) rfl rfl rfl (hts _ (ss_in 8 rfl)) (hts (.methodLink RJ0 492 yJ0_isLatin1_aae02) (ss_in 14 rfl)) (by decide +kernel) ⟨Nat.le_of_ble_eq_true rfl, Nat.le_of_ble_eq_true rfl⟩, hts _ (ss_in 15 rfl), hts _ (ss_in 16 rfl)⟩ ⟨ss_fb hm, ss_recv hS0 hE, ss_pre hm hE⟩ rfl rfl hl.1 rfl (lv_room (Nat.zero_le _)) (show decode cJ0_charAt_5068e 1 = .ok (.invokevirtual 492, 3) by decide +kernel) ⟨Nat.le_refl _, Nat.le_refl _⟩) ?_
  refine lv_if_eq hx hb (show decode cJ0_charAt_5068e 4 = .ok (.ifCond .eq 12, 3) by decide +kernel) (tgt := 16) (by decide) (fun h => absurd h (by decide)) (fun _ => ?_)
  refine lv_aload_n hx hb (show decode cJ0_charAt_5068e 7 = .ok (.aload_n 0, 1) by decide +kernel) rfl (lv_at hl 0 rfl) ?_
  refine vk_getf hx hb hV hS hown (hts (.fieldLink RJ0 9 "java/lang/String" "value" "[B") (ss_in 1 rfl)) (fun _ h => h) (show decode cJ0_charAt_5068e 8 = .ok (.getfield 9, 3) by decide +kernel) ?_
  refine lv_iload_n hx hb (show decode cJ0_charAt_5068e 11 = .ok (.iload_n 1, 1) by decide +kernel) rfl (lv_at hl 1 rfl) ?_
  refine ss_call (va_runS (cc := cJ0_charAt_5068e) (As := [.ref v, .int i]) (rest := []) ⟨hx, hb, hml, hown, hts⟩ (ss_c3 hg hm hB h1 h2 hin (fun U H h => (hS0 U H h).2.2.2) hr9 hn9) ⟨callB_of 2 hts (am_goodIn hg (fun w hw => by rcases List.mem_cons.mp hw with rfl | hw; exact ss_in 21 rfl; exact hw)) rfl rfl rfl (hts _ (ss_in 20 rfl)) (hts (.methodLink RJ0 495 yJ1_charAt_3b067) (ss_in 18 rfl)) (by decide +kernel) ⟨Nat.le_refl _, Nat.le_refl _⟩, hts _ (ss_in 19 rfl)⟩ ⟨ss_fb hm, ss_pre hm hE⟩ rfl rfl hl.1 rfl (lv_room (Nat.zero_le _)) (show decode cJ0_charAt_5068e 12 = .ok (.invokestatic 495, 3) by decide +kernel) ⟨Nat.le_refl _, Nat.le_refl _⟩) ?_
  exact W.zret hx hb hr hn9 (fun t ht _ => ⟨rfl, ht⟩) (fun q hq => absurd hq List.not_mem_nil) (show decode cJ0_charAt_5068e 15 = .ok (.ireturn, 1) by decide +kernel) hlocks
/-- a String's length, its signs, for an address where such a String lies -/
def ss_K (A : Nat → Prop) (EV : State → Heap → Prop) (ty : String) (a : Nat) : Prop := (ty.length < 100 ∧ ∀ c ∈ ty.toList, c.toNat < 128) ∧ ∃ v : Nat, ∀ (U : State) (H : Heap), EV U H → ev_S A ty a v U H
theorem ss_L (hg : ∀ w ∈ am_WS ex, goodWord w = true) (hm : am_EVm A EV) (hB : ss_B A EV) {sx : Nat → Nat} {tq : Nat → Option String} (hK : ∀ (i : Nat) (ty : String), tq i = some ty → ss_K A EV ty (sx (i + 1))) : am_strL l A sx tq ex EV := by
  intro p e R s m args below meth c H locs cells slots Q cc pc ls rest own ix i tx b hx hb hml hown hts hE hS hb4 hlink htx hcat hfr hlo hc hs hd k
  obtain ⟨⟨h100, -⟩, v, hS0⟩ := hK i tx htx
  have hE2 : EV s H := hm.2 s s.heap H (fun a h1 h2 => hS.2.1 a h1 h2) hE
  refine ss_call (va_runV (cc := cc) (C := RJ0) (As := []) (b := sx (i + 1)) (rest := rest) ⟨hx, hb, hml, hown, hts⟩ (ss_c6 (ex := ex) hg hm hB hS0 h100) ⟨callB_of 0 hts (am_goodIn hg (fun w hw => by rcases List.mem_cons.mp hw with rfl | hw; exact ss_in 0 rfl; exact hw)) rfl rfl rfl (hts _ (ss_in 8 rfl)) hlink (by decide +kernel) ⟨by show 1 + 1 ≤ _; omega, by show 8 + (1 + 11) + 20 ≤ _; omega⟩, hts _ (ss_in 9 rfl), hts _ (ss_in 10 rfl)⟩ ⟨ss_fb hm, ss_recv hS0 hE2, ss_pre hm hE2⟩ rfl rfl rfl rfl (lv_room hcat) hd ⟨hc, hs⟩) ?_
  exact k H locs rfl rfl
theorem ss_ch : ∀ n, n < 128 → ((Int32.ofNat n &&& 255).toUInt32 % 65536).toInt32 = Int32.ofNat n ∧ narrow .char (.int (Int32.ofNat n)) = .int (Int32.ofNat n) := by decide +kernel
theorem ss_C (hg : ∀ w ∈ am_WS ex, goodWord w = true) (hm : am_EVm A EV) (hB : ss_B A EV) {sx : Nat → Nat} {tq : Nat → Option String} (hK : ∀ (i : Nat) (ty : String), tq i = some ty → ss_K A EV ty (sx (i + 1))) : am_strC l A sx tq ex EV := by
  intro p e R s m args below meth c H locs cells slots Q cc pc ls rest own ix i tx ch j hx hb hml hown hts hE hS hlink htx hin hch hcat hfr hlo hc hs hd k
  obtain ⟨⟨h100, hall⟩, v, hS0⟩ := hK i tx htx
  have hE2 : EV s H := hm.2 s s.heap H (fun a h1 h2 => hS.2.1 a h1 h2) hE
  have hin2 : ¬ (j < 0 ∨ tx.length ≤ j.toNatClampNeg) := of_decide_eq_true hin
  have h1 : ¬ j < 0 := fun w => hin2 (Or.inl w)
  have h2 : j.toNatClampNeg < tx.length := Nat.not_le.mp (fun w => hin2 (Or.inr w))
  have h3 : j < Int32.ofNat tx.length := by
    have h0 : (0 : Int) ≤ j.toInt := by
      have := Int32.not_lt.mp h1
      simpa using Int32.le_iff_toInt_le.mp this
    rw [Int32.lt_iff_toInt_lt, ← Int32.ofInt_eq_ofNat, az_toInt ⟨by omega, by omega⟩]
    have : j.toInt.toNat < tx.length := h2
    omega
  have h128 := hall ch (List.mem_of_getElem? hch)
  have e : (ev_by tx).getD j.toNatClampNeg 0 = Int32.ofNat ch.toNat := by
    show (((tx.toList.map fun c => Int32.ofNat c.toNat)[j.toNatClampNeg]?).getD 0) = _
    rw [List.getElem?_map, hch]
    rfl
  refine ss_call (va_runV (cc := cc) (C := RJ0) (As := [.int j]) (b := sx (i + 1)) (rest := rest) ⟨hx, hb, hml, hown, hts⟩ (ss_c7 (ex := ex) hg hm hB (r := Int32.ofNat ch.toNat) hS0 h1 h3 hin2 (by rw [e]; exact (ss_ch _ h128).1) (ss_ch _ h128).2) ⟨callB_of 1 hts (am_goodIn hg (fun w hw => by rcases List.mem_cons.mp hw with rfl | hw; exact ss_in 13 rfl; exact hw)) rfl rfl rfl (hts _ (ss_in 8 rfl)) hlink (by decide +kernel) ⟨by show 3 + 1 ≤ _; omega, by show 8 + (2 + 11) + 64 ≤ _; omega⟩, hts _ (ss_in 11 rfl), hts _ (ss_in 12 rfl)⟩ ⟨ss_fb hm, ss_recv hS0 hE2, ss_pre hm hE2⟩ rfl rfl rfl rfl (lv_room hcat) hd ⟨hc, hs⟩) ?_
  exact k H locs rfl rfl
end SSM
