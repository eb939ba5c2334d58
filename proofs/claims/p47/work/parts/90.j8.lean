/-! THE JDK'S STRINGBUILDER: toString -/
set_option maxHeartbeats 1000000 in
theorem jc_initS2 {l : Launch} {D : va_G} {cB : ClassId} {A : Nat → Prop} {EV : State → Heap → Prop} (hg : ∀ w ∈ am_WS jsW, goodWord w = true) (hm : am_EVm A EV) (hB : ss_B A EV) {b d cap n o : Nat} {ml : Int32} {f : Nat → Int32} (hcl : ∀ (U : State) (H : Heap), EV U H → va_Nw (.castable "[B" "java/lang/Cloneable") U) (hnc : n ≤ cap) (hcap : cap ≤ 65536) (hf : js_ft f) : Met l yJ0_init_db425 (Cond.code yJ0_init_db425 cJ0_init_db425 5 none :: am_WS jsW) ({ frames := 3, cells := 1, slots := n, locals := 160 }) (js_Pc D cB A EV [.ref o, .ref b, .null] (js_b cB b d cap n ml f ++ [(o, .inr (1, [Value.null, .int 0, .int 0, .int 0]))])) (js_Q D A (fun v w => ∃ x g, v = none ∧ w = js_b cB b d cap n ml f ++ [(o, .inr (1, [.ref x, .int 0, .int 0, .int 0])), (x, .inl (cB, n, .inl g))] ∧ js_ft g ∧ ∀ j, j < n → g j = f j)) (1) (n) A := by
  refine Met.ofW (cc := cJ0_init_db425) (maxL := 5) (ret := none) (by decide) rfl ?_
  intro p e s m args below meth c s₁ B hml hv
  obtain ⟨rfl, hP, hD, hK, hA0, hE0⟩ := hv
  have hx := B.exec
  have hb := B.bytes
  have hr := B.returns
  have hlocks := B.notSynchronized
  have hts0 := atoms_spec (ws := Cond.code yJ0_init_db425 cJ0_init_db425 5 none :: am_WS jsW) B.pre
  have hts : ∀ w ∈ am_WS jsW, w.before ([.ref o, .ref b, .null] : List Value).toArray s = true := fun w hw => hts0 w (List.mem_cons_of_mem _ hw)
  have hown : s.vm.findClass RJ0 = some m.cls := findClass_of_methodNamed B.named
  have hS : va_S A s.heap s.heap [] := va_S.rf
  have hl := lv_entry ([.ref o, .ref b, .null]) (n := 5) (Nat.le_of_ble_eq_true rfl)
  rw [lg_entry_eq]
  generalize (lg_sl ([.ref o, .ref b, .null]) ++ List.replicate (5 - (lg_sl ([.ref o, .ref b, .null])).length) Slot.unset).toArray = ls at hl ⊢
  have hl : lv_has ls 5 [(0, .ref o), (1, .ref b), (2, .null)] := hl
  have hE : EV s s.heap := hE0
  have hA := hA0
  have hn9 : meth.name = "<init>" := (name_of_methodNamed B.named B.method).1
  refine lv_aload_n hx hb (show decode cJ0_init_db425 0 = .ok (.aload_n 0, 1) by decide +kernel) rfl (lv_at hl 0 rfl) ?_
  refine W.objInit hx hb hown (hts _ (js_in 97 rfl)) (hts _ (js_in 76 rfl)) (hts _ (js_in 77 rfl)) rfl (by rw [hml]; exact hl.1) rfl (show decode cJ0_init_db425 1 = .ok (.invokespecial 1, 3) by decide +kernel) (Nat.le_of_ble_eq_true rfl) (Nat.le_of_ble_eq_true rfl) ?_
  show W p l e _ s m _ below meth c _ _ _ _ _ (F0 m 4 ls [])
  refine lv_aload_n hx hb (show decode cJ0_init_db425 4 = .ok (.aload_n 1, 1) by decide +kernel) rfl (lv_at hl 1 rfl) ?_
  refine js_call (va_runV (cc := cJ0_init_db425) (C := RJ4) (As := []) (b := b) (rest := []) ⟨hx, hb, hml, hown, hts⟩ (jc_getValueT (b := b) (d := d) (cap := cap) (n := n) (ml := ml) (f := f) (tl := [(o, .inr (1, [Value.null, .int 0, .int 0, .int 0]))]) hg hm hB) ⟨callB_of 0 hts (am_goodIn hg (fun w hw => by rcases List.mem_cons.mp hw with rfl | hw; exact js_in 98 rfl; exact hw)) rfl rfl rfl (hts _ (js_in 24 rfl)) (hts (.methodLink RJ0 552 yJ5_getValue_6d5f1) (js_in 99 rfl)) (by decide +kernel) ⟨Nat.le_of_ble_eq_true rfl, Nat.le_of_ble_eq_true rfl⟩, (hts _ (js_in 100 rfl)), (hts _ (js_in 101 rfl))⟩ ⟨js_fb hm, js_recv hK hP 0 rfl, js_pre hm hP hD hK hA hE⟩ rfl rfl hl.1 rfl (lv_room (Nat.le_of_ble_eq_true rfl)) (show decode cJ0_init_db425 5 = .ok (.invokevirtual 552, 3) by decide +kernel) ⟨by show 0 + 0 ≤ 1; omega, by show 0 + 0 ≤ n; omega⟩) hS (fun v w H locs qq hP hD hS => ?_)
  obtain ⟨rfl, rfl⟩ := qq
  show W p l e _ s m _ below meth c H locs _ _ _ (F0 m 8 ls [.ref d])
  have hP : va_P D js_cl (js_b cB b d cap n ml f ++ [(o, .inr (1, [Value.null, .int 0, .int 0, .int 0]))]) H := hP
  have hD : va_D A (js_b cB b d cap n ml f ++ [(o, .inr (1, [Value.null, .int 0, .int 0, .int 0]))]) := hD
  have hE : EV s H := js_E hm hS hE0
  have hA := js_A hS hA0
  refine lv_astore_n hx hb (show decode cJ0_init_db425 8 = .ok (.astore_n 3, 1) by decide +kernel) rfl hl (by decide) rfl (fun ls hl => ?_)
  have hl : lv_has ls 5 [(3, .ref d), (0, .ref o), (1, .ref b), (2, .null)] := hl
  refine lv_aload_n hx hb (show decode cJ0_init_db425 9 = .ok (.aload_n 1, 1) by decide +kernel) rfl (lv_at hl 2 rfl) ?_
  have hd9 : va_Decl s ⟨RJ5, yJ5_length_8abf5.name, yJ5_length_8abf5.desc⟩ := va_Decl.of (x := yJ5_length_8abf5) (hts _ (js_in 83 rfl)) (hts _ (js_in 84 rfl))
  have hs9 : ∀ sig, parseMethodDescriptor yJ5_length_8abf5.desc = some sig → 0 = sig.parameters.length := fun sig h => by
    have h2 : (parseMethodDescriptor yJ5_length_8abf5.desc).map (fun d => d.parameters.length) = some 0 := by decide +kernel
    rw [h] at h2
    exact (Option.some.inj h2).symm
  refine js_call (va_runU (cc := cJ0_init_db425) (C := RJ4) (owner := RJ5) (x := yJ5_length_8abf5) (y := yJ4_length_8abf5) (As := []) (b := b) (rest := []) ⟨hx, hb, hml, hown, hts⟩ (jc_length4T (b := b) (d := d) (cap := cap) (n := n) (ml := ml) (f := f) (tl := [(o, .inr (1, [Value.null, .int 0, .int 0, .int 0]))]) hg hm hB) ⟨⟨rfl, rfl, Nat.le_of_ble_eq_true rfl, Nat.le_of_ble_eq_true rfl, pay_in hts (am_goodIn hg (fun w hw => by rcases List.mem_cons.mp hw with rfl | hw; exact js_in 102 rfl; exact hw)), List.mem_cons_self⟩, hts _ (js_in 102 rfl), (hts _ (js_in 103 rfl)), ⟨by decide, by decide⟩, hs9, hts (.methodLink RJ0 549 yJ5_length_8abf5) (js_in 104 rfl), (hts _ (js_in 105 rfl)), hd9, (hts _ (js_in 106 rfl)), (hts _ (js_in 107 rfl))⟩ ⟨js_fb hm, js_recv hK hP 0 rfl, js_pre hm hP hD hK hA hE⟩ rfl rfl hl.1 rfl (lv_room (Nat.le_of_ble_eq_true rfl)) (show decode cJ0_init_db425 10 = .ok (.invokevirtual 549, 3) by decide +kernel) ⟨by show 0 + 0 + 0 ≤ 1; omega, by show 0 + 0 + 0 ≤ n; omega⟩) hS (fun v w H locs qq hP hD hS => ?_)
  obtain ⟨rfl, rfl⟩ := qq
  show W p l e _ s m _ below meth c H locs _ _ _ (F0 m 13 ls [.int (nI n)])
  have hP : va_P D js_cl (js_b cB b d cap n ml f ++ [(o, .inr (1, [Value.null, .int 0, .int 0, .int 0]))]) H := hP
  have hD : va_D A (js_b cB b d cap n ml f ++ [(o, .inr (1, [Value.null, .int 0, .int 0, .int 0]))]) := hD
  have hE : EV s H := js_E hm hS hE0
  have hA := js_A hS hA0
  refine lv_istore hx hb (show decode cJ0_init_db425 13 = .ok (.istore 4, 2) by decide +kernel) hl (by decide) rfl (fun ls hl => ?_)
  have hl : lv_has ls 5 [(4, .int (nI n)), (3, .ref d), (0, .ref o), (1, .ref b), (2, .null)] := hl
  refine lv_aload_n hx hb (show decode cJ0_init_db425 15 = .ok (.aload_n 1, 1) by decide +kernel) rfl (lv_at hl 3 rfl) ?_
  refine js_call (va_runV (cc := cJ0_init_db425) (C := RJ4) (As := []) (b := b) (rest := []) ⟨hx, hb, hml, hown, hts⟩ (jc_isLatin1T (b := b) (d := d) (cap := cap) (n := n) (ml := ml) (f := f) (tl := [(o, .inr (1, [Value.null, .int 0, .int 0, .int 0]))]) hg hm hB) ⟨callB_of 0 hts (am_goodIn hg (fun w hw => by rcases List.mem_cons.mp hw with rfl | hw; exact js_in 64 rfl; exact hw)) rfl rfl rfl (hts _ (js_in 24 rfl)) (hts (.methodLink RJ0 1047 yJ5_isLatin1_aae02) (js_in 108 rfl)) (by decide +kernel) ⟨Nat.le_of_ble_eq_true rfl, Nat.le_of_ble_eq_true rfl⟩, (hts _ (js_in 66 rfl)), (hts _ (js_in 67 rfl))⟩ ⟨js_fb hm, js_recv hK hP 0 rfl, js_pre hm hP hD hK hA hE⟩ rfl rfl hl.1 rfl (lv_room (Nat.le_of_ble_eq_true rfl)) (show decode cJ0_init_db425 16 = .ok (.invokevirtual 1047, 3) by decide +kernel) ⟨by show 0 + 0 + 0 + 0 ≤ 1; omega, by show 0 + 0 + 0 + 0 ≤ n; omega⟩) hS (fun v w H locs qq hP hD hS => ?_)
  obtain ⟨rfl, rfl⟩ := qq
  show W p l e _ s m _ below meth c H locs _ _ _ (F0 m 19 ls [.int 1])
  have hP : va_P D js_cl (js_b cB b d cap n ml f ++ [(o, .inr (1, [Value.null, .int 0, .int 0, .int 0]))]) H := hP
  have hD : va_D A (js_b cB b d cap n ml f ++ [(o, .inr (1, [Value.null, .int 0, .int 0, .int 0]))]) := hD
  have hE : EV s H := js_E hm hS hE0
  have hA := js_A hS hA0
  refine lv_if_eq hx hb (show decode cJ0_init_db425 19 = .ok (.ifCond .eq 22, 3) by decide +kernel) (tgt := 41) (by decide) (fun h => absurd h (by decide)) (fun _ => ?_)
  refine lv_aload_n hx hb (show decode cJ0_init_db425 22 = .ok (.aload_n 0, 1) by decide +kernel) rfl (lv_at hl 2 rfl) ?_
  refine lv_iconst hx hb (v := 0) (show decode cJ0_init_db425 23 = .ok (.iconst 0, 1) by decide +kernel) (by decide) ?_
  refine va_putF hx hb hts js_u0 tyJ0 tyJ0_ok nmJ0 hown hK hP hD hS 2 rfl rfl 1 (by decide) (hts _ (js_in 109 rfl)) (fun _ h => h) rfl hn9 rfl (ty := .byte) (by decide +kernel) rfl rfl (Nat.le_of_ble_eq_true rfl) (show decode cJ0_init_db425 24 = .ok (.putfield 15, 3) by decide +kernel) (fun H locs hP hD hS => ?_)
  have hP : va_P D js_cl (js_b cB b d cap n ml f ++ [(o, .inr (1, [Value.null, .int 0, .int 0, .int 0]))]) H := hP
  have hD : va_D A (js_b cB b d cap n ml f ++ [(o, .inr (1, [Value.null, .int 0, .int 0, .int 0]))]) := hD
  have hE : EV s H := js_E hm hS hE0
  have hA := js_A hS hA0
  refine lv_aload_n hx hb (show decode cJ0_init_db425 27 = .ok (.aload_n 0, 1) by decide +kernel) rfl (lv_at hl 2 rfl) ?_
  refine lv_aload_n hx hb (show decode cJ0_init_db425 28 = .ok (.aload_n 3, 1) by decide +kernel) rfl (lv_at hl 1 rfl) ?_
  refine lv_iconst hx hb (v := 0) (show decode cJ0_init_db425 29 = .ok (.iconst 0, 1) by decide +kernel) (by decide) ?_
  refine lv_iload hx hb (show decode cJ0_init_db425 30 = .ok (.iload 4, 2) by decide +kernel) (lv_at hl 0 rfl) ?_
  refine js_call (va_runS (cc := cJ0_init_db425) (As := [.ref d, .int 0, .int (nI n)]) (rest := [.ref o]) ⟨hx, hb, hml, hown, hts⟩ (jc_copyR (b := b) (d := d) (cap := cap) (n := n) (o := o) (ml := ml) (f := f) hg hm hB hcl hnc hcap hf) ⟨callB_of 3 hts (am_goodIn hg (fun w hw => by rcases List.mem_cons.mp hw with rfl | hw; exact js_in 110 rfl; exact hw)) rfl rfl rfl (hts _ (js_in 28 rfl)) (hts (.methodLink RJ0 54 yJ7_copyOfRange_39247) (js_in 111 rfl)) (by decide +kernel) ⟨Nat.le_of_ble_eq_true rfl, Nat.le_of_ble_eq_true rfl⟩, (hts _ (js_in 112 rfl))⟩ ⟨js_fb hm, js_pre hm hP hD hK hA hE⟩ rfl rfl hl.1 rfl (lv_room (Nat.le_of_ble_eq_true rfl)) (show decode cJ0_init_db425 32 = .ok (.invokestatic 54, 3) by decide +kernel) ⟨by show 0 + 0 + 0 + 0 + 1 ≤ 1; omega, by show 0 + 0 + 0 + 0 + n ≤ n; omega⟩) hS (fun v w H locs qq hP hD hS => ?_)
  obtain ⟨x, g, rfl, rfl, hq⟩ := qq
  show W p l e _ s m _ below meth c H locs _ _ _ (F0 m 35 ls [.ref x, .ref o])
  have hP : va_P D js_cl (js_b cB b d cap n ml f ++ [(o, .inr (1, [Value.null, .int 0, .int 0, .int 0])), (x, .inl (cB, n, .inl g))]) H := hP
  have hD : va_D A (js_b cB b d cap n ml f ++ [(o, .inr (1, [Value.null, .int 0, .int 0, .int 0])), (x, .inl (cB, n, .inl g))]) := hD
  have hE : EV s H := js_E hm hS hE0
  have hA := js_A hS hA0
  refine va_putF hx hb hts js_u0 tyJ0 tyJ0_ok nmJ0 hown hK hP hD hS 2 rfl rfl 0 (by decide) (hts _ (js_in 33 rfl)) (fun _ h => h) rfl hn9 rfl (ty := .array .byte) (by decide +kernel) rfl rfl (Nat.le_of_ble_eq_true rfl) (show decode cJ0_init_db425 35 = .ok (.putfield 9, 3) by decide +kernel) (fun H locs hP hD hS => ?_)
  have hP : va_P D js_cl (js_b cB b d cap n ml f ++ [(o, .inr (1, [.ref x, .int 0, .int 0, .int 0])), (x, .inl (cB, n, .inl g))]) H := hP
  have hD : va_D A (js_b cB b d cap n ml f ++ [(o, .inr (1, [.ref x, .int 0, .int 0, .int 0])), (x, .inl (cB, n, .inl g))]) := hD
  have hE : EV s H := js_E hm hS hE0
  have hA := js_A hS hA0
  refine lv_goto hx hb (show decode cJ0_init_db425 38 = .ok (.goto 59, 3) by decide +kernel) (tgt := 97) (by decide) ?_
  refine W.widen (by show 0 + 0 + 0 + 0 + 1 ≤ 1; omega) (by show 0 + 0 + 0 + 0 + n ≤ n; omega) ?_
  exact W.vret hx hb hr (fun t ht _ => ⟨⟨_, js_b cB b d cap n ml f ++ [(o, .inr (1, [.ref x, .int 0, .int 0, .int 0])), (x, .inl (cB, n, .inl g))], rfl, ⟨x, g, rfl, rfl, hq⟩, by rw [ht]; exact hP, hD⟩, hS.F ht⟩) hS.2.2 (show decode cJ0_init_db425 97 = .ok (.return_, 1) by decide +kernel) hlocks
set_option maxHeartbeats 1000000 in
theorem jc_initS1 {l : Launch} {D : va_G} {cB : ClassId} {A : Nat → Prop} {EV : State → Heap → Prop} (hg : ∀ w ∈ am_WS jsW, goodWord w = true) (hm : am_EVm A EV) (hB : ss_B A EV) {b d cap n o : Nat} {ml : Int32} {f : Nat → Int32} (hcl : ∀ (U : State) (H : Heap), EV U H → va_Nw (.castable "[B" "java/lang/Cloneable") U) (hnc : n ≤ cap) (hcap : cap ≤ 65536) (hf : js_ft f) : Met l yJ0_init_81219 (Cond.code yJ0_init_81219 cJ0_init_81219 2 none :: am_WS jsW) ({ frames := 4, cells := 1, slots := n, locals := 200 }) (js_Pc D cB A EV [.ref o, .ref b] (js_b cB b d cap n ml f ++ [(o, .inr (1, [Value.null, .int 0, .int 0, .int 0]))])) (js_Q D A (fun v w => ∃ x g, v = none ∧ w = js_b cB b d cap n ml f ++ [(o, .inr (1, [.ref x, .int 0, .int 0, .int 0])), (x, .inl (cB, n, .inl g))] ∧ js_ft g ∧ ∀ j, j < n → g j = f j)) (1) (n) A := by
  refine Met.ofW (cc := cJ0_init_81219) (maxL := 2) (ret := none) (by decide) rfl ?_
  intro p e s m args below meth c s₁ B hml hv
  obtain ⟨rfl, hP, hD, hK, hA0, hE0⟩ := hv
  have hx := B.exec
  have hb := B.bytes
  have hr := B.returns
  have hlocks := B.notSynchronized
  have hts0 := atoms_spec (ws := Cond.code yJ0_init_81219 cJ0_init_81219 2 none :: am_WS jsW) B.pre
  have hts : ∀ w ∈ am_WS jsW, w.before ([.ref o, .ref b] : List Value).toArray s = true := fun w hw => hts0 w (List.mem_cons_of_mem _ hw)
  have hown : s.vm.findClass RJ0 = some m.cls := findClass_of_methodNamed B.named
  have hS : va_S A s.heap s.heap [] := va_S.rf
  have hl := lv_entry ([.ref o, .ref b]) (n := 2) (Nat.le_of_ble_eq_true rfl)
  rw [lg_entry_eq]
  generalize (lg_sl ([.ref o, .ref b]) ++ List.replicate (2 - (lg_sl ([.ref o, .ref b])).length) Slot.unset).toArray = ls at hl ⊢
  have hl : lv_has ls 2 [(0, .ref o), (1, .ref b)] := hl
  have hE : EV s s.heap := hE0
  have hA := hA0
  refine lv_aload_n hx hb (show decode cJ0_init_81219 0 = .ok (.aload_n 0, 1) by decide +kernel) rfl (lv_at hl 0 rfl) ?_
  refine lv_aload_n hx hb (show decode cJ0_init_81219 1 = .ok (.aload_n 1, 1) by decide +kernel) rfl (lv_at hl 1 rfl) ?_
  refine lv_null hx hb (show decode cJ0_init_81219 2 = .ok (.aconst_null, 1) by decide +kernel) ?_
  refine js_call (va_runI (cc := cJ0_init_81219) (As := [.ref b, .null]) (b := o) (rest := []) ⟨hx, hb, hml, hown, hts⟩ (jc_initS2 (b := b) (d := d) (cap := cap) (n := n) (o := o) (ml := ml) (f := f) hg hm hB hcl hnc hcap hf) ⟨callB_of 2 hts (am_goodIn hg (fun w hw => by rcases List.mem_cons.mp hw with rfl | hw; exact js_in 113 rfl; exact hw)) rfl rfl rfl (hts _ (js_in 40 rfl)) (hts (.methodLink RJ0 489 yJ0_init_db425) (js_in 114 rfl)) (by decide +kernel) ⟨Nat.le_of_ble_eq_true rfl, Nat.le_of_ble_eq_true rfl⟩, rfl, (hts _ (js_in 115 rfl))⟩ ⟨js_fb hm, js_pre hm hP hD hK hA hE⟩ rfl rfl hl.1 rfl (lv_room (Nat.le_of_ble_eq_true rfl)) (show decode cJ0_init_81219 3 = .ok (.invokespecial 489, 3) by decide +kernel) ⟨by show 0 + 1 ≤ 1; omega, by show 0 + n ≤ n; omega⟩) hS (fun v w H locs qq hP hD hS => ?_)
  obtain ⟨x, g, rfl, rfl, hq⟩ := qq
  show W p l e _ s m _ below meth c H locs _ _ _ (F0 m 6 ls [])
  have hP : va_P D js_cl (js_b cB b d cap n ml f ++ [(o, .inr (1, [.ref x, .int 0, .int 0, .int 0])), (x, .inl (cB, n, .inl g))]) H := hP
  have hD : va_D A (js_b cB b d cap n ml f ++ [(o, .inr (1, [.ref x, .int 0, .int 0, .int 0])), (x, .inl (cB, n, .inl g))]) := hD
  have hE : EV s H := js_E hm hS hE0
  have hA := js_A hS hA0
  refine W.widen (by show 0 + 1 ≤ 1; omega) (by show 0 + n ≤ n; omega) ?_
  exact W.vret hx hb hr (fun t ht _ => ⟨⟨_, js_b cB b d cap n ml f ++ [(o, .inr (1, [.ref x, .int 0, .int 0, .int 0])), (x, .inl (cB, n, .inl g))], rfl, ⟨x, g, rfl, rfl, hq⟩, by rw [ht]; exact hP, hD⟩, hS.F ht⟩) hS.2.2 (show decode cJ0_init_81219 6 = .ok (.return_, 1) by decide +kernel) hlocks
set_option maxHeartbeats 1000000 in
theorem jc_toString {l : Launch} {D : va_G} {cB : ClassId} {A : Nat → Prop} {EV : State → Heap → Prop} (hg : ∀ w ∈ am_WS jsW, goodWord w = true) (hm : am_EVm A EV) (hB : ss_B A EV) {b d cap n : Nat} {ml : Int32} {f : Nat → Int32} (hcl : ∀ (U : State) (H : Heap), EV U H → va_Nw (.castable "[B" "java/lang/Cloneable") U) (hnc : n ≤ cap) (hcap : cap ≤ 65536) (hf : js_ft f) : Met l yJ4_toString_0e30d (Cond.code yJ4_toString_0e30d cJ4_toString_0e30d 1 (some (.object "java/lang/String")) :: am_WS jsW) ({ frames := 5, cells := 2, slots := 4 + n, locals := 240 }) (js_Pc D cB A EV [.ref b] (js_b cB b d cap n ml f)) (js_Q D A (fun v w => ∃ o x g, v = some (.ref o) ∧ w = js_b cB b d cap n ml f ++ [(o, .inr (1, [.ref x, .int 0, .int 0, .int 0])), (x, .inl (cB, n, .inl g))] ∧ js_ft g ∧ ∀ j, j < n → g j = f j)) (2) (4 + n) A := by
  refine Met.ofW (cc := cJ4_toString_0e30d) (maxL := 1) (ret := (some (.object "java/lang/String"))) (by decide) rfl ?_
  intro p e s m args below meth c s₁ B hml hv
  obtain ⟨rfl, hP, hD, hK, hA0, hE0⟩ := hv
  have hx := B.exec
  have hb := B.bytes
  have hr := B.returns
  have hlocks := B.notSynchronized
  have hts0 := atoms_spec (ws := Cond.code yJ4_toString_0e30d cJ4_toString_0e30d 1 (some (.object "java/lang/String")) :: am_WS jsW) B.pre
  have hts : ∀ w ∈ am_WS jsW, w.before ([.ref b] : List Value).toArray s = true := fun w hw => hts0 w (List.mem_cons_of_mem _ hw)
  have hown : s.vm.findClass RJ4 = some m.cls := findClass_of_methodNamed B.named
  have hS : va_S A s.heap s.heap [] := va_S.rf
  have hl := lv_entry ([.ref b]) (n := 1) (Nat.le_of_ble_eq_true rfl)
  rw [lg_entry_eq]
  generalize (lg_sl ([.ref b]) ++ List.replicate (1 - (lg_sl ([.ref b])).length) Slot.unset).toArray = ls at hl ⊢
  have hl : lv_has ls 1 [(0, .ref b)] := hl
  have hE : EV s s.heap := hE0
  have hA := hA0
  refine va_new hx hb hts js_u0 tyJ0 tyJ0_ok hown (hts _ (js_in 116 rfl)) (hts _ (js_in 117 rfl)) (hts _ (js_in 40 rfl)) hK hP hD hS hA0 (ci := 1) rfl (fs := [Value.null, .int 0, .int 0, .int 0]) (fun j hj => by rcases (show j = 0 ∨ j = 1 ∨ j = 2 ∨ j = 3 by omega) with rfl | rfl | rfl | rfl <;> rfl) (by show 0 + 1 ≤ 2; omega) (by show 0 + 4 ≤ 4 + n; omega) (show decode cJ4_toString_0e30d 0 = .ok (.new 18, 3) by decide +kernel) (fun o H hP hD hS => ?_)
  have hP : va_P D js_cl (js_b cB b d cap n ml f ++ [(o, .inr (1, [Value.null, .int 0, .int 0, .int 0]))]) H := hP
  have hD : va_D A (js_b cB b d cap n ml f ++ [(o, .inr (1, [Value.null, .int 0, .int 0, .int 0]))]) := hD
  have hE : EV s H := js_E hm hS hE0
  have hA := js_A hS hA0
  refine lv_dup hx hb (show decode cJ4_toString_0e30d 3 = .ok (.dup, 1) by decide +kernel) rfl ?_
  refine lv_aload_n hx hb (show decode cJ4_toString_0e30d 4 = .ok (.aload_n 0, 1) by decide +kernel) rfl (lv_at hl 0 rfl) ?_
  refine js_call (va_runI (cc := cJ4_toString_0e30d) (As := [.ref b]) (b := o) (rest := [.ref o]) ⟨hx, hb, hml, hown, hts⟩ (jc_initS1 (b := b) (d := d) (cap := cap) (n := n) (o := o) (ml := ml) (f := f) hg hm hB hcl hnc hcap hf) ⟨callB_of 1 hts (am_goodIn hg (fun w hw => by rcases List.mem_cons.mp hw with rfl | hw; exact js_in 118 rfl; exact hw)) rfl rfl rfl (hts _ (js_in 40 rfl)) (hts (.methodLink RJ4 137 yJ0_init_81219) (js_in 119 rfl)) (by decide +kernel) ⟨Nat.le_of_ble_eq_true rfl, Nat.le_of_ble_eq_true rfl⟩, rfl, (hts _ (js_in 120 rfl))⟩ ⟨js_fb hm, js_pre hm hP hD hK hA hE⟩ rfl rfl hl.1 rfl (lv_room (Nat.le_of_ble_eq_true rfl)) (show decode cJ4_toString_0e30d 5 = .ok (.invokespecial 137, 3) by decide +kernel) ⟨by show 0 + 1 + 1 ≤ 2; omega, by show 0 + 4 + n ≤ 4 + n; omega⟩) hS (fun v w H locs qq hP hD hS => ?_)
  obtain ⟨x, g, rfl, rfl, hq⟩ := qq
  show W p l e _ s m _ below meth c H locs _ _ _ (F0 m 8 ls [.ref o])
  have hP : va_P D js_cl (js_b cB b d cap n ml f ++ [(o, .inr (1, [.ref x, .int 0, .int 0, .int 0])), (x, .inl (cB, n, .inl g))]) H := hP
  have hD : va_D A (js_b cB b d cap n ml f ++ [(o, .inr (1, [.ref x, .int 0, .int 0, .int 0])), (x, .inl (cB, n, .inl g))]) := hD
  have hE : EV s H := js_E hm hS hE0
  have hA := js_A hS hA0
  refine W.widen (by show 0 + 1 + 1 ≤ 2; omega) (by show 0 + 4 + n ≤ 4 + n; omega) ?_
  exact W.aret hx hb hr (Or.inl ⟨_, rfl⟩) (Or.inr ⟨_, rfl⟩) (fun t ht _ => ⟨⟨_, js_b cB b d cap n ml f ++ [(o, .inr (1, [.ref x, .int 0, .int 0, .int 0])), (x, .inl (cB, n, .inl g))], rfl, ⟨o, x, g, rfl, rfl, hq⟩, by rw [ht]; exact hP, hD⟩, hS.F ht⟩) hS.2.2 (show decode cJ4_toString_0e30d 8 = .ok (.areturn, 1) by decide +kernel) hlocks
