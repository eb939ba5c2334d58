/-! THE JDK'S STRINGBUILDER: copies -/
set_option maxHeartbeats 1000000 in
theorem jc_isLatin1T {l : Launch} {D : va_G} {cB : ClassId} {A : Nat → Prop} {EV : State → Heap → Prop} (hg : ∀ w ∈ am_WS jsW, goodWord w = true) (hm : am_EVm A EV) (hB : ss_B A EV) {b d cap n : Nat} {ml : Int32} {f : Nat → Int32} {tl : va_W} : Met l yJ5_isLatin1_aae02 (Cond.code yJ5_isLatin1_aae02 cJ5_isLatin1_aae02 1 (some .boolean) :: am_WS jsW) ({ frames := 0, cells := 0, slots := 0, locals := 0 }) (js_Pc D cB A EV [.ref b] (js_b cB b d cap n ml f ++ tl)) (js_Q D A (fun v w => v = some (.int 1) ∧ w = js_b cB b d cap n ml f ++ tl)) (0) (0) A := by
  refine Met.ofW (cc := cJ5_isLatin1_aae02) (maxL := 1) (ret := (some .boolean)) (by decide) rfl ?_
  intro p e s m args below meth c s₁ B hml hv
  obtain ⟨rfl, hP, hD, hK, hA0, hE0⟩ := hv
  have hx := B.exec
  have hb := B.bytes
  have hr := B.returns
  have hlocks := B.notSynchronized
  have hts0 := atoms_spec (ws := Cond.code yJ5_isLatin1_aae02 cJ5_isLatin1_aae02 1 (some .boolean) :: am_WS jsW) B.pre
  have hts : ∀ w ∈ am_WS jsW, w.before ([.ref b] : List Value).toArray s = true := fun w hw => hts0 w (List.mem_cons_of_mem _ hw)
  have hown : s.vm.findClass RJ5 = some m.cls := findClass_of_methodNamed B.named
  have hS : va_S A s.heap s.heap [] := va_S.rf
  have hl := lv_entry ([.ref b]) (n := 1) (Nat.le_of_ble_eq_true rfl)
  rw [lg_entry_eq]
  generalize (lg_sl ([.ref b]) ++ List.replicate (1 - (lg_sl ([.ref b])).length) Slot.unset).toArray = ls at hl ⊢
  have hl : lv_has ls 1 [(0, .ref b)] := hl
  have hE : EV s s.heap := hE0
  have hA := hA0
  refine va_gets hx hb (hB.1 _ _ hE0) hS hown (hts _ (js_in 0 rfl)) (fun _ h => h) (show decode cJ5_isLatin1_aae02 0 = .ok (.getstatic 18, 3) by decide +kernel) ?_
  refine lv_if_eq hx hb (show decode cJ5_isLatin1_aae02 3 = .ok (.ifCond .eq 14, 3) by decide +kernel) (tgt := 17) (by decide) (fun h => absurd h (by decide)) (fun _ => ?_)
  refine lv_aload_n hx hb (show decode cJ5_isLatin1_aae02 6 = .ok (.aload_n 0, 1) by decide +kernel) rfl (lv_at hl 0 rfl) ?_
  refine va_get hx hb hts js_u4 hown hK hP 0 rfl rfl 1 (by decide) (hts _ (js_in 1 rfl)) (fun _ h => h) (v := .int 0) rfl (show decode cJ5_isLatin1_aae02 7 = .ok (.getfield 22, 3) by decide +kernel) ?_
  refine lv_if_ne hx hb (show decode cJ5_isLatin1_aae02 10 = .ok (.ifCond .ne 7, 3) by decide +kernel) (tgt := 17) (by decide) (fun h => absurd h (fun h => h rfl)) (fun _ => ?_)
  refine lv_iconst hx hb (v := 1) (show decode cJ5_isLatin1_aae02 13 = .ok (.iconst 1, 1) by decide +kernel) (by decide) ?_
  refine lv_goto hx hb (show decode cJ5_isLatin1_aae02 14 = .ok (.goto 4, 3) by decide +kernel) (tgt := 18) (by decide) ?_
  exact W.zret hx hb hr (by decide) (fun t ht _ => ⟨⟨_, js_b cB b d cap n ml f ++ tl, rfl, ⟨rfl, rfl⟩, by rw [ht]; exact hP, hD⟩, hS.F ht⟩) hS.2.2 (show decode cJ5_isLatin1_aae02 18 = .ok (.ireturn, 1) by decide +kernel) hlocks
set_option maxHeartbeats 1000000 in
theorem jc_getValueT {l : Launch} {D : va_G} {cB : ClassId} {A : Nat → Prop} {EV : State → Heap → Prop} (hg : ∀ w ∈ am_WS jsW, goodWord w = true) (hm : am_EVm A EV) (hB : ss_B A EV) {b d cap n : Nat} {ml : Int32} {f : Nat → Int32} {tl : va_W} : Met l yJ5_getValue_6d5f1 (Cond.code yJ5_getValue_6d5f1 cJ5_getValue_6d5f1 1 (some (.array .byte)) :: am_WS jsW) ({ frames := 0, cells := 0, slots := 0, locals := 0 }) (js_Pc D cB A EV [.ref b] (js_b cB b d cap n ml f ++ tl)) (js_Q D A (fun v w => v = some (.ref d) ∧ w = js_b cB b d cap n ml f ++ tl)) (0) (0) A := by
  refine Met.ofW (cc := cJ5_getValue_6d5f1) (maxL := 1) (ret := (some (.array .byte))) (by decide) rfl ?_
  intro p e s m args below meth c s₁ B hml hv
  obtain ⟨rfl, hP, hD, hK, hA0, hE0⟩ := hv
  have hx := B.exec
  have hb := B.bytes
  have hr := B.returns
  have hlocks := B.notSynchronized
  have hts0 := atoms_spec (ws := Cond.code yJ5_getValue_6d5f1 cJ5_getValue_6d5f1 1 (some (.array .byte)) :: am_WS jsW) B.pre
  have hts : ∀ w ∈ am_WS jsW, w.before ([.ref b] : List Value).toArray s = true := fun w hw => hts0 w (List.mem_cons_of_mem _ hw)
  have hown : s.vm.findClass RJ5 = some m.cls := findClass_of_methodNamed B.named
  have hS : va_S A s.heap s.heap [] := va_S.rf
  have hl := lv_entry ([.ref b]) (n := 1) (Nat.le_of_ble_eq_true rfl)
  rw [lg_entry_eq]
  generalize (lg_sl ([.ref b]) ++ List.replicate (1 - (lg_sl ([.ref b])).length) Slot.unset).toArray = ls at hl ⊢
  have hl : lv_has ls 1 [(0, .ref b)] := hl
  have hE : EV s s.heap := hE0
  have hA := hA0
  refine lv_aload_n hx hb (show decode cJ5_getValue_6d5f1 0 = .ok (.aload_n 0, 1) by decide +kernel) rfl (lv_at hl 0 rfl) ?_
  refine va_get hx hb hts js_u4 hown hK hP 0 rfl rfl 0 (by decide) (hts _ (js_in 2 rfl)) (fun _ h => h) (v := .ref d) rfl (show decode cJ5_getValue_6d5f1 1 = .ok (.getfield 15, 3) by decide +kernel) ?_
  exact W.aret hx hb hr (Or.inr ⟨_, rfl⟩) (Or.inr ⟨_, rfl⟩) (fun t ht _ => ⟨⟨_, js_b cB b d cap n ml f ++ tl, rfl, ⟨rfl, rfl⟩, by rw [ht]; exact hP, hD⟩, hS.F ht⟩) hS.2.2 (show decode cJ5_getValue_6d5f1 4 = .ok (.areturn, 1) by decide +kernel) hlocks
set_option maxHeartbeats 1000000 in
theorem jc_length5T {l : Launch} {D : va_G} {cB : ClassId} {A : Nat → Prop} {EV : State → Heap → Prop} (hg : ∀ w ∈ am_WS jsW, goodWord w = true) (hm : am_EVm A EV) (hB : ss_B A EV) {b d cap n : Nat} {ml : Int32} {f : Nat → Int32} {tl : va_W} : Met l yJ5_length_8abf5 (Cond.code yJ5_length_8abf5 cJ5_length_8abf5 1 (some .int) :: am_WS jsW) ({ frames := 0, cells := 0, slots := 0, locals := 0 }) (js_Pc D cB A EV [.ref b] (js_b cB b d cap n ml f ++ tl)) (js_Q D A (fun v w => v = some (.int (nI n)) ∧ w = js_b cB b d cap n ml f ++ tl)) (0) (0) A := by
  refine Met.ofW (cc := cJ5_length_8abf5) (maxL := 1) (ret := (some .int)) (by decide) rfl ?_
  intro p e s m args below meth c s₁ B hml hv
  obtain ⟨rfl, hP, hD, hK, hA0, hE0⟩ := hv
  have hx := B.exec
  have hb := B.bytes
  have hr := B.returns
  have hlocks := B.notSynchronized
  have hts0 := atoms_spec (ws := Cond.code yJ5_length_8abf5 cJ5_length_8abf5 1 (some .int) :: am_WS jsW) B.pre
  have hts : ∀ w ∈ am_WS jsW, w.before ([.ref b] : List Value).toArray s = true := fun w hw => hts0 w (List.mem_cons_of_mem _ hw)
  have hown : s.vm.findClass RJ5 = some m.cls := findClass_of_methodNamed B.named
  have hS : va_S A s.heap s.heap [] := va_S.rf
  have hl := lv_entry ([.ref b]) (n := 1) (Nat.le_of_ble_eq_true rfl)
  rw [lg_entry_eq]
  generalize (lg_sl ([.ref b]) ++ List.replicate (1 - (lg_sl ([.ref b])).length) Slot.unset).toArray = ls at hl ⊢
  have hl : lv_has ls 1 [(0, .ref b)] := hl
  have hE : EV s s.heap := hE0
  have hA := hA0
  refine lv_aload_n hx hb (show decode cJ5_length_8abf5 0 = .ok (.aload_n 0, 1) by decide +kernel) rfl (lv_at hl 0 rfl) ?_
  refine va_get hx hb hts js_u4 hown hK hP 0 rfl rfl 3 (by decide) (hts _ (js_in 3 rfl)) (fun _ h => h) (v := .int (nI n)) rfl (show decode cJ5_length_8abf5 1 = .ok (.getfield 79, 3) by decide +kernel) ?_
  exact W.iret hx hb hr (fun t ht _ => ⟨⟨_, js_b cB b d cap n ml f ++ tl, rfl, ⟨rfl, rfl⟩, by rw [ht]; exact hP, hD⟩, hS.F ht⟩) hS.2.2 (show decode cJ5_length_8abf5 4 = .ok (.ireturn, 1) by decide +kernel) hlocks
set_option maxHeartbeats 1000000 in
theorem jc_length4T {l : Launch} {D : va_G} {cB : ClassId} {A : Nat → Prop} {EV : State → Heap → Prop} (hg : ∀ w ∈ am_WS jsW, goodWord w = true) (hm : am_EVm A EV) (hB : ss_B A EV) {b d cap n : Nat} {ml : Int32} {f : Nat → Int32} {tl : va_W} : Met l yJ4_length_8abf5 (Cond.code yJ4_length_8abf5 cJ4_length_8abf5 1 (some .int) :: am_WS jsW) ({ frames := 1, cells := 0, slots := 0, locals := 40 }) (js_Pc D cB A EV [.ref b] (js_b cB b d cap n ml f ++ tl)) (js_Q D A (fun v w => v = some (.int (nI n)) ∧ w = js_b cB b d cap n ml f ++ tl)) (0) (0) A := by
  refine Met.ofW (cc := cJ4_length_8abf5) (maxL := 1) (ret := (some .int)) (by decide) rfl ?_
  intro p e s m args below meth c s₁ B hml hv
  obtain ⟨rfl, hP, hD, hK, hA0, hE0⟩ := hv
  have hx := B.exec
  have hb := B.bytes
  have hr := B.returns
  have hlocks := B.notSynchronized
  have hts0 := atoms_spec (ws := Cond.code yJ4_length_8abf5 cJ4_length_8abf5 1 (some .int) :: am_WS jsW) B.pre
  have hts : ∀ w ∈ am_WS jsW, w.before ([.ref b] : List Value).toArray s = true := fun w hw => hts0 w (List.mem_cons_of_mem _ hw)
  have hown : s.vm.findClass RJ4 = some m.cls := findClass_of_methodNamed B.named
  have hS : va_S A s.heap s.heap [] := va_S.rf
  have hl := lv_entry ([.ref b]) (n := 1) (Nat.le_of_ble_eq_true rfl)
  rw [lg_entry_eq]
  generalize (lg_sl ([.ref b]) ++ List.replicate (1 - (lg_sl ([.ref b])).length) Slot.unset).toArray = ls at hl ⊢
  have hl : lv_has ls 1 [(0, .ref b)] := hl
  have hE : EV s s.heap := hE0
  have hA := hA0
  refine lv_aload_n hx hb (show decode cJ4_length_8abf5 0 = .ok (.aload_n 0, 1) by decide +kernel) rfl (lv_at hl 0 rfl) ?_
  have hgd9 : GoodIn (am_WS jsW) (va_wsSU RJ4 343 yJ5_length_8abf5 (Cond.code yJ5_length_8abf5 cJ5_length_8abf5 1 (some .int) :: am_WS jsW)) := (am_goodIn hg (fun w hw => by
      unfold va_wsSU at hw
      rcases List.mem_append.mp hw with hw | hw
      · rcases List.mem_cons.mp hw with rfl | hw
        · exact (js_in 81 rfl)
        rcases List.mem_cons.mp hw with rfl | hw
        · exact (js_in 82 rfl)
        rcases List.mem_cons.mp hw with rfl | hw
        · exact (js_in 55 rfl)
        rcases List.mem_cons.mp hw with rfl | hw
        · exact (js_in 83 rfl)
        rcases List.mem_cons.mp hw with rfl | hw
        · exact (js_in 24 rfl)
        cases hw
      · rcases List.mem_cons.mp hw with rfl | hw
        · exact (js_in 84 rfl)
        · exact hw))
  refine js_call (va_runSU (cc := cJ4_length_8abf5) (C := RJ4) (hK.1 0 _ rfl).2 (As := []) (b := b) (rest := []) ⟨hx, hb, hml, hown, hts⟩ (jc_length5T (b := b) (d := d) (cap := cap) (n := n) (ml := ml) (f := f) (tl := tl) hg hm hB) (va_cwSU 0 hts hgd9 rfl rfl rfl (by decide +kernel) ⟨Nat.le_of_ble_eq_true rfl, Nat.le_of_ble_eq_true rfl⟩) ⟨js_fb hm, js_recv hK hP 0 rfl, js_pre hm hP hD hK hA hE⟩ rfl rfl hl.1 rfl (lv_room (Nat.le_of_ble_eq_true rfl)) (show decode cJ4_length_8abf5 1 = .ok (.invokespecial 343, 3) by decide +kernel) ⟨by show 0 + 0 ≤ 0; omega, by show 0 + 0 ≤ 0; omega⟩) hS (fun v w H locs qq hP hD hS => ?_)
  obtain ⟨rfl, rfl⟩ := qq
  show W p l e _ s m _ below meth c H locs _ _ _ (F0 m 4 ls [.int (nI n)])
  have hP : va_P D js_cl (js_b cB b d cap n ml f ++ tl) H := hP
  have hD : va_D A (js_b cB b d cap n ml f ++ tl) := hD
  have hE : EV s H := js_E hm hS hE0
  have hA := js_A hS hA0
  exact W.iret hx hb hr (fun t ht _ => ⟨⟨_, js_b cB b d cap n ml f ++ tl, rfl, ⟨rfl, rfl⟩, by rw [ht]; exact hP, hD⟩, hS.F ht⟩) hS.2.2 (show decode cJ4_length_8abf5 4 = .ok (.ireturn, 1) by decide +kernel) hlocks
set_option maxHeartbeats 1000000 in
theorem jc_checkLength {l : Launch} {D : va_G} {cB : ClassId} {A : Nat → Prop} {EV : State → Heap → Prop} (hg : ∀ w ∈ am_WS jsW, goodWord w = true) (hm : am_EVm A EV) (hB : ss_B A EV) {ws : va_W} {n : Nat} (hn : n ≤ 65536) : Met l yJ7_checkLength_df160 (Cond.code yJ7_checkLength_df160 cJ7_checkLength_df160 2 none :: am_WS jsW) ({ frames := 0, cells := 0, slots := 0, locals := 0 }) (js_Pc D cB A EV [.int 0, .int (nI n)] (ws)) (js_Q D A (fun v w => v = none ∧ w = ws)) (0) (0) A := by
  refine Met.ofW (cc := cJ7_checkLength_df160) (maxL := 2) (ret := none) (by decide) rfl ?_
  intro p e s m args below meth c s₁ B hml hv
  obtain ⟨rfl, hP, hD, hK, hA0, hE0⟩ := hv
  have hx := B.exec
  have hb := B.bytes
  have hr := B.returns
  have hlocks := B.notSynchronized
  have hts0 := atoms_spec (ws := Cond.code yJ7_checkLength_df160 cJ7_checkLength_df160 2 none :: am_WS jsW) B.pre
  have hts : ∀ w ∈ am_WS jsW, w.before ([.int 0, .int (nI n)] : List Value).toArray s = true := fun w hw => hts0 w (List.mem_cons_of_mem _ hw)
  have hown : s.vm.findClass RJ7 = some m.cls := findClass_of_methodNamed B.named
  have hS : va_S A s.heap s.heap [] := va_S.rf
  have hl := lv_entry ([.int 0, .int (nI n)]) (n := 2) (Nat.le_of_ble_eq_true rfl)
  rw [lg_entry_eq]
  generalize (lg_sl ([.int 0, .int (nI n)]) ++ List.replicate (2 - (lg_sl ([.int 0, .int (nI n)])).length) Slot.unset).toArray = ls at hl ⊢
  have hl : lv_has ls 2 [(0, .int 0), (1, .int (nI n))] := hl
  have hE : EV s s.heap := hE0
  have hA := hA0
  refine lv_iload_n hx hb (show decode cJ7_checkLength_df160 0 = .ok (.iload_n 1, 1) by decide +kernel) rfl (lv_at hl 1 rfl) ?_
  refine lv_iload_n hx hb (show decode cJ7_checkLength_df160 1 = .ok (.iload_n 0, 1) by decide +kernel) rfl (lv_at hl 0 rfl) ?_
  refine lv_icmp_ge hx hb (show decode cJ7_checkLength_df160 2 = .ok (.if_icmp .ge 35, 3) by decide +kernel) (tgt := 37) (by decide) (fun _ => ?_) (fun h => absurd (nI_pos' (by omega)) h)
  exact W.vret hx hb hr (fun t ht _ => ⟨⟨_, ws, rfl, ⟨rfl, rfl⟩, by rw [ht]; exact hP, hD⟩, hS.F ht⟩) hS.2.2 (show decode cJ7_checkLength_df160 37 = .ok (.return_, 1) by decide +kernel) hlocks
set_option maxHeartbeats 1000000 in
theorem jc_copyRB {l : Launch} {D : va_G} {cB : ClassId} {A : Nat → Prop} {EV : State → Heap → Prop} (hg : ∀ w ∈ am_WS jsW, goodWord w = true) (hm : am_EVm A EV) (hB : ss_B A EV) {b d cap n o : Nat} {ml : Int32} {f : Nat → Int32} (hnc : n < cap) (hcap : cap ≤ 65536) (hf : js_ft f) : Met l yJ7_copyOfRangeByte_39247 (Cond.code yJ7_copyOfRangeByte_39247 cJ7_copyOfRangeByte_39247 5 (some (.array .byte)) :: am_WS jsW) ({ frames := 1, cells := 1, slots := n, locals := 60 }) (js_Pc D cB A EV [.ref d, .int 0, .int (nI n)] (js_b cB b d cap n ml f ++ [(o, .inr (1, [Value.null, .int 0, .int 0, .int 0]))])) (js_Q D A (fun v w => ∃ x g, v = some (.ref x) ∧ w = js_b cB b d cap n ml f ++ [(o, .inr (1, [Value.null, .int 0, .int 0, .int 0]))] ++ [(x, .inl (cB, n, .inl g))] ∧ js_ft g ∧ ∀ j, j < n → g j = f j)) (1) (n) A := by
  refine Met.ofW (cc := cJ7_copyOfRangeByte_39247) (maxL := 5) (ret := (some (.array .byte))) (by decide) rfl ?_
  intro p e s m args below meth c s₁ B hml hv
  obtain ⟨rfl, hP, hD, hK, hA0, hE0⟩ := hv
  have hx := B.exec
  have hb := B.bytes
  have hr := B.returns
  have hlocks := B.notSynchronized
  have hts0 := atoms_spec (ws := Cond.code yJ7_copyOfRangeByte_39247 cJ7_copyOfRangeByte_39247 5 (some (.array .byte)) :: am_WS jsW) B.pre
  have hts : ∀ w ∈ am_WS jsW, w.before ([.ref d, .int 0, .int (nI n)] : List Value).toArray s = true := fun w hw => hts0 w (List.mem_cons_of_mem _ hw)
  have hown : s.vm.findClass RJ7 = some m.cls := findClass_of_methodNamed B.named
  have hS : va_S A s.heap s.heap [] := va_S.rf
  have hl := lv_entry ([.ref d, .int 0, .int (nI n)]) (n := 5) (Nat.le_of_ble_eq_true rfl)
  rw [lg_entry_eq]
  generalize (lg_sl ([.ref d, .int 0, .int (nI n)]) ++ List.replicate (5 - (lg_sl ([.ref d, .int 0, .int (nI n)])).length) Slot.unset).toArray = ls at hl ⊢
  have hl : lv_has ls 5 [(0, .ref d), (1, .int 0), (2, .int (nI n))] := hl
  have hE : EV s s.heap := hE0
  have hA := hA0
  refine lv_iload_n hx hb (show decode cJ7_copyOfRangeByte_39247 0 = .ok (.iload_n 1, 1) by decide +kernel) rfl (lv_at hl 1 rfl) ?_
  refine lv_iload_n hx hb (show decode cJ7_copyOfRangeByte_39247 1 = .ok (.iload_n 2, 1) by decide +kernel) rfl (lv_at hl 2 rfl) ?_
  refine js_call (va_runS (cc := cJ7_copyOfRangeByte_39247) (As := [.int 0, .int (nI n)]) (rest := []) ⟨hx, hb, hml, hown, hts⟩ (jc_checkLength (ws := js_b cB b d cap n ml f ++ [(o, .inr (1, [Value.null, .int 0, .int 0, .int 0]))]) (n := n) hg hm hB (by omega)) ⟨callB_of 2 hts (am_goodIn hg (fun w hw => by rcases List.mem_cons.mp hw with rfl | hw; exact js_in 85 rfl; exact hw)) rfl rfl rfl (hts _ (js_in 28 rfl)) (hts (.methodLink RJ7 343 yJ7_checkLength_df160) (js_in 86 rfl)) (by decide +kernel) ⟨Nat.le_of_ble_eq_true rfl, Nat.le_of_ble_eq_true rfl⟩, (hts _ (js_in 87 rfl))⟩ ⟨js_fb hm, js_pre hm hP hD hK hA hE⟩ rfl rfl hl.1 rfl (lv_room (Nat.le_of_ble_eq_true rfl)) (show decode cJ7_copyOfRangeByte_39247 2 = .ok (.invokestatic 343, 3) by decide +kernel) ⟨by show 0 + 0 ≤ 1; omega, by show 0 + 0 ≤ n; omega⟩) hS (fun v w H locs qq hP hD hS => ?_)
  obtain ⟨rfl, rfl⟩ := qq
  show W p l e _ s m _ below meth c H locs _ _ _ (F0 m 5 ls [])
  have hP : va_P D js_cl (js_b cB b d cap n ml f ++ [(o, .inr (1, [Value.null, .int 0, .int 0, .int 0]))]) H := hP
  have hD : va_D A (js_b cB b d cap n ml f ++ [(o, .inr (1, [Value.null, .int 0, .int 0, .int 0]))]) := hD
  have hE : EV s H := js_E hm hS hE0
  have hA := js_A hS hA0
  refine lv_iload_n hx hb (show decode cJ7_copyOfRangeByte_39247 5 = .ok (.iload_n 2, 1) by decide +kernel) rfl (lv_at hl 2 rfl) ?_
  refine lv_iload_n hx hb (show decode cJ7_copyOfRangeByte_39247 6 = .ok (.iload_n 1, 1) by decide +kernel) rfl (lv_at hl 1 rfl) ?_
  refine lv_isub hx hb (show decode cJ7_copyOfRangeByte_39247 7 = .ok (.isub, 1) by decide +kernel) ?_
  rw [show (((nI n) - 0) : Int32) = (nI n) from (Int32.sub_zero _)]
  refine lv_istore_n hx hb (show decode cJ7_copyOfRangeByte_39247 8 = .ok (.istore_n 3, 1) by decide +kernel) rfl hl (by decide) rfl (fun ls hl => ?_)
  have hl : lv_has ls 5 [(3, .int (nI n)), (0, .ref d), (1, .int 0), (2, .int (nI n))] := hl
  refine lv_iload_n hx hb (show decode cJ7_copyOfRangeByte_39247 9 = .ok (.iload_n 3, 1) by decide +kernel) rfl (lv_at hl 0 rfl) ?_
  refine va_newa hx hb (atype := .byte) (a0 := (n, .inl (fun _ => 0))) (hts _ (js_in 9 rfl)) rfl hK hP hD hS hA0 (fun _ => rfl) (nI_pos (by omega)) (nI_clamp (by omega)) (by show n * 1 ≤ 536870912; omega) (by show 0 + 0 + 1 ≤ 1; omega) (by show 0 + 0 + n ≤ n; omega) (show decode cJ7_copyOfRangeByte_39247 10 = .ok (.newarray .byte, 2) by decide +kernel) (fun x cA H hK1 hP hD hS => ?_)
  rw [js_cB hK hK1] at hP hD
  have hP : va_P D js_cl (js_b cB b d cap n ml f ++ [(o, .inr (1, [Value.null, .int 0, .int 0, .int 0]))] ++ [(x, .inl (cB, n, .inl (fun _ => 0)))]) H := hP
  have hD : va_D A (js_b cB b d cap n ml f ++ [(o, .inr (1, [Value.null, .int 0, .int 0, .int 0]))] ++ [(x, .inl (cB, n, .inl (fun _ => 0)))]) := hD
  have hE : EV s H := js_E hm hS hE0
  have hA := js_A hS hA0
  refine lv_astore hx hb (show decode cJ7_copyOfRangeByte_39247 12 = .ok (.astore 4, 2) by decide +kernel) hl (by decide) rfl (fun ls hl => ?_)
  have hl : lv_has ls 5 [(4, .ref x), (3, .int (nI n)), (0, .ref d), (1, .int 0), (2, .int (nI n))] := hl
  refine lv_aload_n hx hb (show decode cJ7_copyOfRangeByte_39247 14 = .ok (.aload_n 0, 1) by decide +kernel) rfl (lv_at hl 2 rfl) ?_
  refine lv_iload_n hx hb (show decode cJ7_copyOfRangeByte_39247 15 = .ok (.iload_n 1, 1) by decide +kernel) rfl (lv_at hl 3 rfl) ?_
  refine lv_aload hx hb (show decode cJ7_copyOfRangeByte_39247 16 = .ok (.aload 4, 2) by decide +kernel) (lv_at hl 0 rfl) ?_
  refine lv_iconst hx hb (v := 0) (show decode cJ7_copyOfRangeByte_39247 18 = .ok (.iconst 0, 1) by decide +kernel) (by decide) ?_
  refine lv_aload_n hx hb (show decode cJ7_copyOfRangeByte_39247 19 = .ok (.aload_n 0, 1) by decide +kernel) rfl (lv_at hl 2 rfl) ?_
  refine va_alen hx hb hK hP 1 0 rfl rfl (v := (nI cap)) rfl (show decode cJ7_copyOfRangeByte_39247 20 = .ok (.arraylength, 1) by decide +kernel) ?_
  refine lv_iload_n hx hb (show decode cJ7_copyOfRangeByte_39247 21 = .ok (.iload_n 1, 1) by decide +kernel) rfl (lv_at hl 3 rfl) ?_
  refine lv_isub hx hb (show decode cJ7_copyOfRangeByte_39247 22 = .ok (.isub, 1) by decide +kernel) ?_
  rw [show (((nI cap) - 0) : Int32) = (nI cap) from (Int32.sub_zero _)]
  refine lv_iload_n hx hb (show decode cJ7_copyOfRangeByte_39247 23 = .ok (.iload_n 3, 1) by decide +kernel) rfl (lv_at hl 1 rfl) ?_
  refine va_mmin hx hb (hml.trans hl.1.symm) hown (hts _ (js_in 10 rfl)) (hts _ (js_in 11 rfl)) (hts _ (js_in 6 rfl)) (hts _ (js_in 12 rfl)) (Nat.le_of_ble_eq_true rfl) (Nat.le_of_ble_eq_true rfl) (by show 0 + 0 + 1 ≤ 1; omega) (by show 0 + 0 + n ≤ n; omega) (show decode cJ7_copyOfRangeByte_39247 24 = .ok (.invokestatic 304, 3) by decide +kernel) ?_
  rw [show ((if (nI n) < (nI cap) then (nI n) else (nI cap)) : Int32) = nI (if n < cap then n else cap) from (js_mn (by omega) (by omega))]
  rw [show (nI (if n < cap then n else cap) : Int32) = nI n from (by rw [if_pos hnc])]
  refine va_copyi hx hb (hml.trans hl.1.symm) hown (hts _ (js_in 13 rfl)) (hts _ (js_in 14 rfl)) (hts _ (js_in 15 rfl)) (hts _ (js_in 16 rfl)) hK hP hD hS 1 3 0 0 rfl rfl rfl rfl rfl (by decide) (by decide) (nI_pos (by omega)) (by rw [nI_clamp (n := n) (by omega)]; show 0 + n ≤ cap; omega) (by rw [nI_clamp (n := n) (by omega)]; show 0 + n ≤ n; omega) (fun i _ => hf _) (Nat.le_of_ble_eq_true rfl) (Nat.le_of_ble_eq_true rfl) (show decode cJ7_copyOfRangeByte_39247 27 = .ok (.invokestatic 150, 3) by decide +kernel) (fun H locs hP hD hS => ?_)
  rw [nI_clamp (n := n) (by omega)] at hP hD
  have hP : va_P D js_cl (js_b cB b d cap n ml f ++ [(o, .inr (1, [Value.null, .int 0, .int 0, .int 0]))] ++ [(x, .inl (cB, n, .inl (va_cpy f (fun _ => 0) 0 0 n)))]) H := hP
  have hD : va_D A (js_b cB b d cap n ml f ++ [(o, .inr (1, [Value.null, .int 0, .int 0, .int 0]))] ++ [(x, .inl (cB, n, .inl (va_cpy f (fun _ => 0) 0 0 n)))]) := hD
  have hE : EV s H := js_E hm hS hE0
  have hA := js_A hS hA0
  refine lv_aload hx hb (show decode cJ7_copyOfRangeByte_39247 30 = .ok (.aload 4, 2) by decide +kernel) (lv_at hl 0 rfl) ?_
  refine W.widen (by show 0 + 0 + 1 ≤ 1; omega) (by show 0 + 0 + n ≤ n; omega) ?_
  exact W.aret hx hb hr (Or.inr ⟨_, rfl⟩) (Or.inr ⟨_, rfl⟩) (fun t ht _ => ⟨⟨_, js_b cB b d cap n ml f ++ [(o, .inr (1, [Value.null, .int 0, .int 0, .int 0]))] ++ [(x, .inl (cB, n, .inl (va_cpy f (fun _ => 0) 0 0 n)))], rfl, ⟨x, _, rfl, rfl, js_ftc hf js_ft0, fun j hj => by unfold va_cpy; rw [if_pos (by omega)]; congr 1; omega⟩, by rw [ht]; exact hP, hD⟩, hS.F ht⟩) hS.2.2 (show decode cJ7_copyOfRangeByte_39247 32 = .ok (.areturn, 1) by decide +kernel) hlocks
set_option maxHeartbeats 1000000 in
theorem jc_copyR {l : Launch} {D : va_G} {cB : ClassId} {A : Nat → Prop} {EV : State → Heap → Prop} (hg : ∀ w ∈ am_WS jsW, goodWord w = true) (hm : am_EVm A EV) (hB : ss_B A EV) {b d cap n o : Nat} {ml : Int32} {f : Nat → Int32} (hcl : ∀ (U : State) (H : Heap), EV U H → va_Nw (.castable "[B" "java/lang/Cloneable") U) (hnc : n ≤ cap) (hcap : cap ≤ 65536) (hf : js_ft f) : Met l yJ7_copyOfRange_39247 (Cond.code yJ7_copyOfRange_39247 cJ7_copyOfRange_39247 3 (some (.array .byte)) :: am_WS jsW) ({ frames := 2, cells := 1, slots := n, locals := 100 }) (js_Pc D cB A EV [.ref d, .int 0, .int (nI n)] (js_b cB b d cap n ml f ++ [(o, .inr (1, [Value.null, .int 0, .int 0, .int 0]))])) (js_Q D A (fun v w => ∃ x g, v = some (.ref x) ∧ w = js_b cB b d cap n ml f ++ [(o, .inr (1, [Value.null, .int 0, .int 0, .int 0]))] ++ [(x, .inl (cB, n, .inl g))] ∧ js_ft g ∧ ∀ j, j < n → g j = f j)) (1) (n) A := by
  refine Met.ofW (cc := cJ7_copyOfRange_39247) (maxL := 3) (ret := (some (.array .byte))) (by decide) rfl ?_
  intro p e s m args below meth c s₁ B hml hv
  obtain ⟨rfl, hP, hD, hK, hA0, hE0⟩ := hv
  have hx := B.exec
  have hb := B.bytes
  have hr := B.returns
  have hlocks := B.notSynchronized
  have hts0 := atoms_spec (ws := Cond.code yJ7_copyOfRange_39247 cJ7_copyOfRange_39247 3 (some (.array .byte)) :: am_WS jsW) B.pre
  have hts : ∀ w ∈ am_WS jsW, w.before ([.ref d, .int 0, .int (nI n)] : List Value).toArray s = true := fun w hw => hts0 w (List.mem_cons_of_mem _ hw)
  have hown : s.vm.findClass RJ7 = some m.cls := findClass_of_methodNamed B.named
  have hS : va_S A s.heap s.heap [] := va_S.rf
  have hl := lv_entry ([.ref d, .int 0, .int (nI n)]) (n := 3) (Nat.le_of_ble_eq_true rfl)
  rw [lg_entry_eq]
  generalize (lg_sl ([.ref d, .int 0, .int (nI n)]) ++ List.replicate (3 - (lg_sl ([.ref d, .int 0, .int (nI n)])).length) Slot.unset).toArray = ls at hl ⊢
  have hl : lv_has ls 3 [(0, .ref d), (1, .int 0), (2, .int (nI n))] := hl
  have hE : EV s s.heap := hE0
  have hA := hA0
  refine lv_iload_n hx hb (show decode cJ7_copyOfRange_39247 0 = .ok (.iload_n 1, 1) by decide +kernel) rfl (lv_at hl 1 rfl) ?_
  refine lv_if_ne hx hb (show decode cJ7_copyOfRange_39247 1 = .ok (.ifCond .ne 9, 3) by decide +kernel) (tgt := 10) (by decide) (fun h => absurd h (fun h => h rfl)) (fun _ => ?_)
  refine lv_iload_n hx hb (show decode cJ7_copyOfRange_39247 4 = .ok (.iload_n 2, 1) by decide +kernel) rfl (lv_at hl 2 rfl) ?_
  refine lv_aload_n hx hb (show decode cJ7_copyOfRange_39247 5 = .ok (.aload_n 0, 1) by decide +kernel) rfl (lv_at hl 0 rfl) ?_
  refine va_alen hx hb hK hP 1 0 rfl rfl (v := (nI cap)) rfl (show decode cJ7_copyOfRange_39247 6 = .ok (.arraylength, 1) by decide +kernel) ?_
  refine lv_icmp_eq hx hb (show decode cJ7_copyOfRange_39247 7 = .ok (.if_icmp .eq 10, 3) by decide +kernel) (tgt := 17) (by decide) (fun h1 => ?_) (fun h1 => ?_)
  · have h1 : n = cap := (nI_eq (by omega) (by omega)).mp h1
    subst h1
    have hnB : s.vm.findClass "[B" = some cB := (hK.2 0 (cB, .byte) rfl).2
    refine lv_aload_n hx hb (show decode cJ7_copyOfRange_39247 17 = .ok (.aload_n 0, 1) by decide +kernel) rfl (lv_at hl 0 rfl) ?_
    refine va_clone hx hb (hml.trans hl.1.symm) hown (hts _ (js_in 88 rfl)) (hts _ (js_in 89 rfl)) (hts _ (js_in 90 rfl)) (hts _ (js_in 91 rfl)) (hts _ (js_in 92 rfl)) (hcl _ _ hE0) hK hP hD hS hA0 1 0 rfl rfl hnB (fun i v hv => by
        have h9 : v = .int (f i) := by
          have hlt := (Array.getElem?_eq_some_iff.mp hv).1
          have hlt2 : i < n := by rw [show (vp_cell cB (n, .inl f)).slots.size = n from arrV_size _ _ _] at hlt; exact hlt
          have := arrV_read cB (fun j => Value.int (f j)) hlt2
          exact Option.some.inj (hv.symm.trans this)
        rw [h9]
        exact hf i) (Nat.le_of_ble_eq_true rfl) (Nat.le_of_ble_eq_true rfl) (by show 0 + 1 ≤ 1; omega) (by show 0 + n ≤ n; omega) (show decode cJ7_copyOfRange_39247 18 = .ok (.invokevirtual 310, 3) by decide +kernel) (fun x H hK1 hP hD hS => ?_)
    have hP : va_P D js_cl (js_b cB b d n n ml f ++ [(o, .inr (1, [Value.null, .int 0, .int 0, .int 0]))] ++ [(x, .inl (cB, n, .inl f))]) H := hP
    have hD : va_D A (js_b cB b d n n ml f ++ [(o, .inr (1, [Value.null, .int 0, .int 0, .int 0]))] ++ [(x, .inl (cB, n, .inl f))]) := hD
    have hE : EV s H := js_E hm hS hE0
    have hA := js_A hS hA0
    refine va_castA hx hb hown (hts _ (js_in 93 rfl)) hP 3 rfl hnB (show decode cJ7_copyOfRange_39247 21 = .ok (.checkcast 311, 3) by decide +kernel) ?_
    refine W.widen (by show 0 + 1 ≤ 1; omega) (by show 0 + n ≤ n; omega) ?_
    exact W.aret hx hb hr (Or.inr ⟨_, rfl⟩) (Or.inr ⟨_, rfl⟩) (fun t ht _ => ⟨⟨_, js_b cB b d n n ml f ++ [(o, .inr (1, [Value.null, .int 0, .int 0, .int 0]))] ++ [(x, .inl (cB, n, .inl f))], rfl, ⟨x, f, rfl, rfl, hf, fun _ _ => rfl⟩, by rw [ht]; exact hP, hD⟩, hS.F ht⟩) hS.2.2 (show decode cJ7_copyOfRange_39247 24 = .ok (.areturn, 1) by decide +kernel) hlocks
  · have h1 : n < cap := Nat.lt_of_le_of_ne hnc (fun w9 => h1 (by rw [w9]))
    refine lv_aload_n hx hb (show decode cJ7_copyOfRange_39247 10 = .ok (.aload_n 0, 1) by decide +kernel) rfl (lv_at hl 0 rfl) ?_
    refine lv_iload_n hx hb (show decode cJ7_copyOfRange_39247 11 = .ok (.iload_n 1, 1) by decide +kernel) rfl (lv_at hl 1 rfl) ?_
    refine lv_iload_n hx hb (show decode cJ7_copyOfRange_39247 12 = .ok (.iload_n 2, 1) by decide +kernel) rfl (lv_at hl 2 rfl) ?_
    refine js_call (va_runS (cc := cJ7_copyOfRange_39247) (As := [.ref d, .int 0, .int (nI n)]) (rest := []) ⟨hx, hb, hml, hown, hts⟩ (jc_copyRB (b := b) (d := d) (cap := cap) (n := n) (o := o) (ml := ml) (f := f) hg hm hB h1 hcap hf) ⟨callB_of 3 hts (am_goodIn hg (fun w hw => by rcases List.mem_cons.mp hw with rfl | hw; exact js_in 94 rfl; exact hw)) rfl rfl rfl (hts _ (js_in 28 rfl)) (hts (.methodLink RJ7 339 yJ7_copyOfRangeByte_39247) (js_in 95 rfl)) (by decide +kernel) ⟨Nat.le_of_ble_eq_true rfl, Nat.le_of_ble_eq_true rfl⟩, (hts _ (js_in 96 rfl))⟩ ⟨js_fb hm, js_pre hm hP hD hK hA hE⟩ rfl rfl hl.1 rfl (lv_room (Nat.le_of_ble_eq_true rfl)) (show decode cJ7_copyOfRange_39247 13 = .ok (.invokestatic 339, 3) by decide +kernel) ⟨by show 0 + 1 ≤ 1; omega, by show 0 + n ≤ n; omega⟩) hS (fun v w H locs qq hP hD hS => ?_)
    obtain ⟨x, g, rfl, rfl, hq⟩ := qq
    show W p l e _ s m _ below meth c H locs _ _ _ (F0 m 16 ls [.ref x])
    have hP : va_P D js_cl (js_b cB b d cap n ml f ++ [(o, .inr (1, [Value.null, .int 0, .int 0, .int 0]))] ++ [(x, .inl (cB, n, .inl g))]) H := hP
    have hD : va_D A (js_b cB b d cap n ml f ++ [(o, .inr (1, [Value.null, .int 0, .int 0, .int 0]))] ++ [(x, .inl (cB, n, .inl g))]) := hD
    have hE : EV s H := js_E hm hS hE0
    have hA := js_A hS hA0
    refine W.widen (by show 0 + 1 ≤ 1; omega) (by show 0 + n ≤ n; omega) ?_
    exact W.aret hx hb hr (Or.inr ⟨_, rfl⟩) (Or.inr ⟨_, rfl⟩) (fun t ht _ => ⟨⟨_, js_b cB b d cap n ml f ++ [(o, .inr (1, [Value.null, .int 0, .int 0, .int 0]))] ++ [(x, .inl (cB, n, .inl g))], rfl, ⟨x, g, rfl, rfl, hq⟩, by rw [ht]; exact hP, hD⟩, hS.F ht⟩) hS.2.2 (show decode cJ7_copyOfRange_39247 16 = .ok (.areturn, 1) by decide +kernel) hlocks
