/-! THE JDK'S STRINGBUILDER: contracts of its methods; written by program (wip/p47tools/j83.py) -/
def jsW : List Cond := u_ws RJ4 TJ4 4 ++ (u_ws RJ0 TJ0 4 ++ [Cond.fieldLink RJ5 18 "java/lang/String" "COMPACT_STRINGS" "Z", Cond.fieldLink RJ5 22 "java/lang/AbstractStringBuilder" "coder" "B", Cond.fieldLink RJ5 15 "java/lang/AbstractStringBuilder" "value" "[B", Cond.fieldLink RJ5 79 "java/lang/AbstractStringBuilder" "count" "I"])
theorem js_in {w : Cond} (i : Nat) (h : jsW[8 + i]? = some w) : w ∈ am_WS jsW := List.mem_append_right _ (List.mem_append_right _ (List.mem_of_getElem? h))
theorem js_u4 : ∀ w ∈ u_ws RJ4 TJ4 4, w ∈ am_WS jsW := fun w hw => List.mem_append_right _ (List.mem_append_right _ (List.mem_append_left _ hw))
theorem js_u0 : ∀ w ∈ u_ws RJ0 TJ0 4, w ∈ am_WS jsW := fun w hw => List.mem_append_right _ (List.mem_append_right _ (List.mem_append_right _ (List.mem_append_left _ hw)))
theorem js_tb : ∀ w ∈ jsW, w ∈ lw_tbl := by decide +kernel
theorem js_gd : ∀ w ∈ jsW, goodWord w = true := by decide +kernel
set_option maxHeartbeats 1000000 in
theorem jc_isLatin1 {l : Launch} {D : va_G} {cB : ClassId} {A : Nat → Prop} {EV : State → Heap → Prop} (hg : ∀ w ∈ am_WS jsW, goodWord w = true) (hm : am_EVm A EV) (hB : ss_B A EV) {b d cap n : Nat} {ml : Int32} {f : Nat → Int32} : Met l yJ5_isLatin1_aae02 (Cond.code yJ5_isLatin1_aae02 cJ5_isLatin1_aae02 1 (some .boolean) :: am_WS jsW) ({ frames := 0, cells := 0, slots := 0, locals := 0 }) (js_Pc D cB A EV [.ref b] (js_b cB b d cap n ml f)) (js_Q D A (fun v w => v = some (.int 1) ∧ w = js_b cB b d cap n ml f)) (0) (0) A := by
  refine Met.ofW (cc := cJ5_isLatin1_aae02) (maxL := 1) (ret := (some .boolean)) (by decide) rfl ?_
  intro p e s m args below meth c s₁ B hml hv
  obtain ⟨rfl, hP, hD, hK, hA0, hE0⟩ := hv
  have hx := B.exec
  have hb := B.bytes
  have hr := B.returns
  have hlocks := B.notSynchronized
  have hts0 := atoms_spec (ws := Cond.code yJ5_isLatin1_aae02 cJ5_isLatin1_aae02 1 (some .boolean) :: am_WS jsW) B.pre
  have hts : ∀ w ∈ am_WS jsW, w.before ([.ref b] : List Value).toArray s = true := fun w hw => hts0 w (List.mem_cons_of_mem _ hw)
  have hown : s.vm.findClass RJ5 = some m.cls := findClass_of_methodNamed B.named
  have hS : va_S A s.heap s.heap [] := va_S.rf
  have hl := lv_entry ([.ref b]) (n := 1) (Nat.le_of_ble_eq_true rfl)
  rw [lg_entry_eq]
  generalize (lg_sl ([.ref b]) ++ List.replicate (1 - (lg_sl ([.ref b])).length) Slot.unset).toArray = ls at hl ⊢
  have hl : lv_has ls 1 [(0, .ref b)] := hl
  have hE : EV s s.heap := hE0
  have hA := hA0
  refine va_gets hx hb (hB.1 _ _ hE0) hS hown (hts _ (js_in 0 rfl)) (fun _ h => h) (show decode cJ5_isLatin1_aae02 0 = .ok (.getstatic 18, 3) by decide +kernel) ?_
  refine lv_if_eq hx hb (show decode cJ5_isLatin1_aae02 3 = .ok (.ifCond .eq 14, 3) by decide +kernel) (tgt := 17) (by decide) (fun h => absurd h (by decide)) (fun _ => ?_)
  refine lv_aload_n hx hb (show decode cJ5_isLatin1_aae02 6 = .ok (.aload_n 0, 1) by decide +kernel) rfl (lv_at hl 0 rfl) ?_
  refine va_get hx hb hts js_u4 hown hK hP 0 rfl rfl 1 (by decide) (hts _ (js_in 1 rfl)) (fun _ h => h) rfl (show decode cJ5_isLatin1_aae02 7 = .ok (.getfield 22, 3) by decide +kernel) ?_
  refine lv_if_ne hx hb (show decode cJ5_isLatin1_aae02 10 = .ok (.ifCond .ne 7, 3) by decide +kernel) (tgt := 17) (by decide) (fun h => absurd h (fun h => h rfl)) (fun _ => ?_)
  refine lv_iconst hx hb (v := 1) (show decode cJ5_isLatin1_aae02 13 = .ok (.iconst 1, 1) by decide +kernel) (by decide) ?_
  refine lv_goto hx hb (show decode cJ5_isLatin1_aae02 14 = .ok (.goto 4, 3) by decide +kernel) (tgt := 18) (by decide) ?_
  exact W.zret hx hb hr (by decide) (fun t ht _ => ⟨⟨_, js_b cB b d cap n ml f, rfl, ⟨rfl, rfl⟩, by rw [ht]; exact hP, hD⟩, hS.F ht⟩) hS.2.2 (show decode cJ5_isLatin1_aae02 18 = .ok (.ireturn, 1) by decide +kernel) hlocks
set_option maxHeartbeats 1000000 in
theorem jc_getValue {l : Launch} {D : va_G} {cB : ClassId} {A : Nat → Prop} {EV : State → Heap → Prop} (hg : ∀ w ∈ am_WS jsW, goodWord w = true) (hm : am_EVm A EV) (hB : ss_B A EV) {b d cap n : Nat} {ml : Int32} {f : Nat → Int32} : Met l yJ5_getValue_6d5f1 (Cond.code yJ5_getValue_6d5f1 cJ5_getValue_6d5f1 1 (some (.array .byte)) :: am_WS jsW) ({ frames := 0, cells := 0, slots := 0, locals := 0 }) (js_Pc D cB A EV [.ref b] (js_b cB b d cap n ml f)) (js_Q D A (fun v w => v = some (.ref d) ∧ w = js_b cB b d cap n ml f)) (0) (0) A := by
  refine Met.ofW (cc := cJ5_getValue_6d5f1) (maxL := 1) (ret := (some (.array .byte))) (by decide) rfl ?_
  intro p e s m args below meth c s₁ B hml hv
  obtain ⟨rfl, hP, hD, hK, hA0, hE0⟩ := hv
  have hx := B.exec
  have hb := B.bytes
  have hr := B.returns
  have hlocks := B.notSynchronized
  have hts0 := atoms_spec (ws := Cond.code yJ5_getValue_6d5f1 cJ5_getValue_6d5f1 1 (some (.array .byte)) :: am_WS jsW) B.pre
  have hts : ∀ w ∈ am_WS jsW, w.before ([.ref b] : List Value).toArray s = true := fun w hw => hts0 w (List.mem_cons_of_mem _ hw)
  have hown : s.vm.findClass RJ5 = some m.cls := findClass_of_methodNamed B.named
  have hS : va_S A s.heap s.heap [] := va_S.rf
  have hl := lv_entry ([.ref b]) (n := 1) (Nat.le_of_ble_eq_true rfl)
  rw [lg_entry_eq]
  generalize (lg_sl ([.ref b]) ++ List.replicate (1 - (lg_sl ([.ref b])).length) Slot.unset).toArray = ls at hl ⊢
  have hl : lv_has ls 1 [(0, .ref b)] := hl
  have hE : EV s s.heap := hE0
  have hA := hA0
  refine lv_aload_n hx hb (show decode cJ5_getValue_6d5f1 0 = .ok (.aload_n 0, 1) by decide +kernel) rfl (lv_at hl 0 rfl) ?_
  refine va_get hx hb hts js_u4 hown hK hP 0 rfl rfl 0 (by decide) (hts _ (js_in 2 rfl)) (fun _ h => h) rfl (show decode cJ5_getValue_6d5f1 1 = .ok (.getfield 15, 3) by decide +kernel) ?_
  exact W.aret hx hb hr (Or.inr ⟨_, rfl⟩) (Or.inr ⟨_, rfl⟩) (fun t ht _ => ⟨⟨_, js_b cB b d cap n ml f, rfl, ⟨rfl, rfl⟩, by rw [ht]; exact hP, hD⟩, hS.F ht⟩) hS.2.2 (show decode cJ5_getValue_6d5f1 4 = .ok (.areturn, 1) by decide +kernel) hlocks
set_option maxHeartbeats 1000000 in
theorem jc_length5 {l : Launch} {D : va_G} {cB : ClassId} {A : Nat → Prop} {EV : State → Heap → Prop} (hg : ∀ w ∈ am_WS jsW, goodWord w = true) (hm : am_EVm A EV) (hB : ss_B A EV) {b d cap n : Nat} {ml : Int32} {f : Nat → Int32} : Met l yJ5_length_8abf5 (Cond.code yJ5_length_8abf5 cJ5_length_8abf5 1 (some .int) :: am_WS jsW) ({ frames := 0, cells := 0, slots := 0, locals := 0 }) (js_Pc D cB A EV [.ref b] (js_b cB b d cap n ml f)) (js_Q D A (fun v w => v = some (.int (Int32.ofNat n)) ∧ w = js_b cB b d cap n ml f)) (0) (0) A := by
  refine Met.ofW (cc := cJ5_length_8abf5) (maxL := 1) (ret := (some .int)) (by decide) rfl ?_
  intro p e s m args below meth c s₁ B hml hv
  obtain ⟨rfl, hP, hD, hK, hA0, hE0⟩ := hv
  have hx := B.exec
  have hb := B.bytes
  have hr := B.returns
  have hlocks := B.notSynchronized
  have hts0 := atoms_spec (ws := Cond.code yJ5_length_8abf5 cJ5_length_8abf5 1 (some .int) :: am_WS jsW) B.pre
  have hts : ∀ w ∈ am_WS jsW, w.before ([.ref b] : List Value).toArray s = true := fun w hw => hts0 w (List.mem_cons_of_mem _ hw)
  have hown : s.vm.findClass RJ5 = some m.cls := findClass_of_methodNamed B.named
  have hS : va_S A s.heap s.heap [] := va_S.rf
  have hl := lv_entry ([.ref b]) (n := 1) (Nat.le_of_ble_eq_true rfl)
  rw [lg_entry_eq]
  generalize (lg_sl ([.ref b]) ++ List.replicate (1 - (lg_sl ([.ref b])).length) Slot.unset).toArray = ls at hl ⊢
  have hl : lv_has ls 1 [(0, .ref b)] := hl
  have hE : EV s s.heap := hE0
  have hA := hA0
  refine lv_aload_n hx hb (show decode cJ5_length_8abf5 0 = .ok (.aload_n 0, 1) by decide +kernel) rfl (lv_at hl 0 rfl) ?_
  refine va_get hx hb hts js_u4 hown hK hP 0 rfl rfl 3 (by decide) (hts _ (js_in 3 rfl)) (fun _ h => h) rfl (show decode cJ5_length_8abf5 1 = .ok (.getfield 79, 3) by decide +kernel) ?_
  exact W.iret hx hb hr (fun t ht _ => ⟨⟨_, js_b cB b d cap n ml f, rfl, ⟨rfl, rfl⟩, by rw [ht]; exact hP, hD⟩, hS.F ht⟩) hS.2.2 (show decode cJ5_length_8abf5 4 = .ok (.ireturn, 1) by decide +kernel) hlocks
