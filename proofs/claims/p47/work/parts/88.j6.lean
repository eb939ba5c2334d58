/-! THE JDK'S STRINGBUILDER: append of an int, constructors -/
set_option maxHeartbeats 1000000 in
theorem jc_appendI5 {l : Launch} {D : va_G} {cB : ClassId} {A : Nat → Prop} {EV : State → Heap → Prop} (hg : ∀ w ∈ am_WS jsW, goodWord w = true) (hm : am_EVm A EV) (hB : ss_B A EV) {b d cap n : Nat} {ml : Int32} {f : Nat → Int32} {v0 : Nat} (hv : v0 < 100) (hT9 : js_T A EV) (hn9 : n ≤ cap) (hcap : cap ≤ 9000) (hf : js_ft f) : Met l yJ5_append_c97b9 (Cond.code yJ5_append_c97b9 cJ5_append_c97b9 4 (some (.object "java/lang/AbstractStringBuilder")) :: am_WS jsW) ({ frames := 6, cells := 1, slots := js_cap (n + js_dg v0) cap, locals := 260 }) (js_Pc D cB A EV [.ref b, .int (nI v0)] (js_b cB b d cap n ml f)) (js_Q D A (fun v w => ∃ d2 cap2 f2, v = some (.ref b) ∧ w = js_b cB b d2 cap2 (n + js_dg v0) ml f2 ∧ n + js_dg v0 ≤ cap2 ∧ (cap2 ≤ 2 * cap + 2 + (n + js_dg v0) ∧ cap2 = js_nc (n + js_dg v0) cap) ∧ js_ft f2 ∧ (∀ j, j < n → f2 j = f j) ∧ ∀ j, j < js_dg v0 → f2 (n + j) = Int32.ofNat (js_dd v0 j))) (1) (js_cap (n + js_dg v0) cap) A := by
  refine Met.ofW (cc := cJ5_append_c97b9) (maxL := 4) (ret := (some (.object "java/lang/AbstractStringBuilder"))) (by decide) rfl ?_
  intro p e s m args below meth c s₁ B hml hv
  obtain ⟨rfl, hP, hD, hK, hA0, hE0⟩ := hv
  have hx := B.exec
  have hb := B.bytes
  have hr := B.returns
  have hlocks := B.notSynchronized
  have hts0 := atoms_spec (ws := Cond.code yJ5_append_c97b9 cJ5_append_c97b9 4 (some (.object "java/lang/AbstractStringBuilder")) :: am_WS jsW) B.pre
  have hts : ∀ w ∈ am_WS jsW, w.before ([.ref b, .int (nI v0)] : List Value).toArray s = true := fun w hw => hts0 w (List.mem_cons_of_mem _ hw)
  have hown : s.vm.findClass RJ5 = some m.cls := findClass_of_methodNamed B.named
  have hS : va_S A s.heap s.heap [] := va_S.rf
  have hl := lv_entry ([.ref b, .int (nI v0)]) (n := 4) (Nat.le_of_ble_eq_true rfl)
  rw [lg_entry_eq]
  generalize (lg_sl ([.ref b, .int (nI v0)]) ++ List.replicate (4 - (lg_sl ([.ref b, .int (nI v0)])).length) Slot.unset).toArray = ls at hl ⊢
  have hl : lv_has ls 4 [(0, .ref b), (1, .int (nI v0))] := hl
  have hE : EV s s.heap := hE0
  have hA := hA0
  have hdg : 0 < js_dg v0 ∧ js_dg v0 ≤ 2 := by unfold js_dg; split <;> omega
  refine lv_aload_n hx hb (show decode cJ5_append_c97b9 0 = .ok (.aload_n 0, 1) by decide +kernel) rfl (lv_at hl 0 rfl) ?_
  refine va_get hx hb hts js_u4 hown hK hP 0 rfl rfl 3 (by decide) (hts _ (js_in 3 rfl)) (fun _ h => h) (v := .int (nI n)) rfl (show decode cJ5_append_c97b9 1 = .ok (.getfield 79, 3) by decide +kernel) ?_
  refine lv_istore_n hx hb (show decode cJ5_append_c97b9 4 = .ok (.istore_n 2, 1) by decide +kernel) rfl hl (by decide) rfl (fun ls hl => ?_)
  have hl : lv_has ls 4 [(2, .int (nI n)), (0, .ref b), (1, .int (nI v0))] := hl
  refine lv_iload_n hx hb (show decode cJ5_append_c97b9 5 = .ok (.iload_n 2, 1) by decide +kernel) rfl (lv_at hl 0 rfl) ?_
  refine lv_iload_n hx hb (show decode cJ5_append_c97b9 6 = .ok (.iload_n 1, 1) by decide +kernel) rfl (lv_at hl 2 rfl) ?_
  refine js_call (va_runS (cc := cJ5_append_c97b9) (As := [.int (nI v0)]) (rest := [.int (nI n)]) ⟨hx, hb, hml, hown, hts⟩ (jc_stringSize (ws := js_b cB b d cap n ml f) (v0 := v0) hg hm hB hv) ⟨callB_of 1 hts (am_goodIn hg (fun w hw => by rcases List.mem_cons.mp hw with rfl | hw; exact js_in 60 rfl; exact hw)) rfl rfl rfl (hts _ (js_in 61 rfl)) (hts (.methodLink RJ5 245 yJ6_stringSize_0f7a4) (js_in 62 rfl)) (by decide +kernel) ⟨Nat.le_of_ble_eq_true rfl, Nat.le_of_ble_eq_true rfl⟩, (hts _ (js_in 63 rfl))⟩ ⟨js_fb hm, js_pre hm hP hD hK hA hE⟩ rfl rfl hl.1 rfl (lv_room (Nat.le_of_ble_eq_true rfl)) (show decode cJ5_append_c97b9 7 = .ok (.invokestatic 245, 3) by decide +kernel) ⟨by show 0 + 0 ≤ 1; omega, by show 0 + 0 ≤ js_cap (n + js_dg v0) cap; omega⟩) hS (fun v w H locs qq hP hD hS => ?_)
  obtain ⟨rfl, rfl⟩ := qq
  show W p l e _ s m _ below meth c H locs _ _ _ (F0 m 10 ls [.int (nI (js_dg v0)), .int (nI n)])
  have hP : va_P D js_cl (js_b cB b d cap n ml f) H := hP
  have hD : va_D A (js_b cB b d cap n ml f) := hD
  have hE : EV s H := js_E hm hS hE0
  have hA := js_A hS hA0
  refine lv_iadd hx hb (show decode cJ5_append_c97b9 10 = .ok (.iadd, 1) by decide +kernel) ?_
  rw [show (((nI n) + (nI (js_dg v0))) : Int32) = (nI (n + js_dg v0)) from (nI_add _ _)]
  refine lv_istore_n hx hb (show decode cJ5_append_c97b9 11 = .ok (.istore_n 3, 1) by decide +kernel) rfl hl (by decide) rfl (fun ls hl => ?_)
  have hl : lv_has ls 4 [(3, .int (nI (n + js_dg v0))), (2, .int (nI n)), (0, .ref b), (1, .int (nI v0))] := hl
  refine lv_aload_n hx hb (show decode cJ5_append_c97b9 12 = .ok (.aload_n 0, 1) by decide +kernel) rfl (lv_at hl 2 rfl) ?_
  refine lv_iload_n hx hb (show decode cJ5_append_c97b9 13 = .ok (.iload_n 3, 1) by decide +kernel) rfl (lv_at hl 0 rfl) ?_
  refine js_call (va_runV (cc := cJ5_append_c97b9) (C := RJ4) (As := [.int (nI (n + js_dg v0))]) (b := b) (rest := []) ⟨hx, hb, hml, hown, hts⟩ (jc_ensure (b := b) (d := d) (cap := cap) (n := n) (ml := ml) (f := f) (q := n + js_dg v0) hg hm hB (by omega) (by omega) hf) ⟨callB_of 1 hts (am_goodIn hg (fun w hw => by rcases List.mem_cons.mp hw with rfl | hw; exact js_in 46 rfl; exact hw)) rfl rfl rfl (hts _ (js_in 24 rfl)) (hts (.methodLink RJ5 100 yJ5_ensureCapacityInternal_d00df) (js_in 47 rfl)) (by decide +kernel) ⟨Nat.le_of_ble_eq_true rfl, Nat.le_of_ble_eq_true rfl⟩, (hts _ (js_in 48 rfl)), (hts _ (js_in 45 rfl))⟩ ⟨js_fb hm, js_recv hK hP 0 rfl, js_pre hm hP hD hK hA hE⟩ rfl rfl hl.1 rfl (lv_room (Nat.le_of_ble_eq_true rfl)) (show decode cJ5_append_c97b9 14 = .ok (.invokevirtual 100, 3) by decide +kernel) ⟨by show 0 + 0 + 1 ≤ 1; omega, by show 0 + 0 + js_cap (n + js_dg v0) cap ≤ js_cap (n + js_dg v0) cap; omega⟩) hS (fun v w H locs qq hP hD hS => ?_)
  obtain ⟨d2, cap2, f2, rfl, rfl, hq1, hq2, hf2, hk2⟩ := qq
  show W p l e _ s m _ below meth c H locs _ _ _ (F0 m 17 ls [])
  have hP : va_P D js_cl (js_b cB b d2 cap2 n ml f2) H := hP
  have hD : va_D A (js_b cB b d2 cap2 n ml f2) := hD
  have hE : EV s H := js_E hm hS hE0
  have hA := js_A hS hA0
  refine lv_aload_n hx hb (show decode cJ5_append_c97b9 17 = .ok (.aload_n 0, 1) by decide +kernel) rfl (lv_at hl 2 rfl) ?_
  refine js_call (va_runV (cc := cJ5_append_c97b9) (C := RJ4) (As := []) (b := b) (rest := []) ⟨hx, hb, hml, hown, hts⟩ (jc_isLatin1 (b := b) (d := d2) (cap := cap2) (n := n) (ml := ml) (f := f2) hg hm hB) ⟨callB_of 0 hts (am_goodIn hg (fun w hw => by rcases List.mem_cons.mp hw with rfl | hw; exact js_in 64 rfl; exact hw)) rfl rfl rfl (hts _ (js_in 24 rfl)) (hts (.methodLink RJ5 83 yJ5_isLatin1_aae02) (js_in 65 rfl)) (by decide +kernel) ⟨Nat.le_of_ble_eq_true rfl, Nat.le_of_ble_eq_true rfl⟩, (hts _ (js_in 66 rfl)), (hts _ (js_in 67 rfl))⟩ ⟨js_fb hm, js_recv hK hP 0 rfl, js_pre hm hP hD hK hA hE⟩ rfl rfl hl.1 rfl (lv_room (Nat.le_of_ble_eq_true rfl)) (show decode cJ5_append_c97b9 18 = .ok (.invokevirtual 83, 3) by decide +kernel) ⟨by show 0 + 0 + 1 + 0 ≤ 1; omega, by show 0 + 0 + js_cap (n + js_dg v0) cap + 0 ≤ js_cap (n + js_dg v0) cap; omega⟩) hS (fun v w H locs qq hP hD hS => ?_)
  obtain ⟨rfl, rfl⟩ := qq
  show W p l e _ s m _ below meth c H locs _ _ _ (F0 m 21 ls [.int 1])
  have hP : va_P D js_cl (js_b cB b d2 cap2 n ml f2) H := hP
  have hD : va_D A (js_b cB b d2 cap2 n ml f2) := hD
  have hE : EV s H := js_E hm hS hE0
  have hA := js_A hS hA0
  refine lv_if_eq hx hb (show decode cJ5_append_c97b9 21 = .ok (.ifCond .eq 16, 3) by decide +kernel) (tgt := 37) (by decide) (fun h => absurd h (by decide)) (fun _ => ?_)
  refine lv_iload_n hx hb (show decode cJ5_append_c97b9 24 = .ok (.iload_n 1, 1) by decide +kernel) rfl (lv_at hl 3 rfl) ?_
  refine lv_iload_n hx hb (show decode cJ5_append_c97b9 25 = .ok (.iload_n 3, 1) by decide +kernel) rfl (lv_at hl 0 rfl) ?_
  refine lv_aload_n hx hb (show decode cJ5_append_c97b9 26 = .ok (.aload_n 0, 1) by decide +kernel) rfl (lv_at hl 2 rfl) ?_
  refine va_get hx hb hts js_u4 hown hK hP 0 rfl rfl 0 (by decide) (hts _ (js_in 2 rfl)) (fun _ h => h) (v := .ref d2) rfl (show decode cJ5_append_c97b9 27 = .ok (.getfield 15, 3) by decide +kernel) ?_
  refine js_call (va_runS (cc := cJ5_append_c97b9) (As := [.int (nI v0), .int (nI (n + js_dg v0)), .ref d2]) (rest := []) ⟨hx, hb, hml, hown, hts⟩ (jc_getChars (b := b) (d := d2) (cap := cap2) (n := n) (ml := ml) (f := f2) (v0 := v0) hg hm hB hv hT9 ⟨hq1, by omega⟩ hf2) ⟨callB_of 3 hts (am_goodIn hg (fun w hw => by rcases List.mem_cons.mp hw with rfl | hw; exact js_in 68 rfl; exact hw)) rfl rfl rfl (hts _ (js_in 61 rfl)) (hts (.methodLink RJ5 248 yJ6_getChars_ba4f3) (js_in 69 rfl)) (by decide +kernel) ⟨Nat.le_of_ble_eq_true rfl, Nat.le_of_ble_eq_true rfl⟩, (hts _ (js_in 70 rfl))⟩ ⟨js_fb hm, js_pre hm hP hD hK hA hE⟩ rfl rfl hl.1 rfl (lv_room (Nat.le_of_ble_eq_true rfl)) (show decode cJ5_append_c97b9 30 = .ok (.invokestatic 248, 3) by decide +kernel) ⟨by show 0 + 0 + 1 + 0 + 0 ≤ 1; omega, by show 0 + 0 + js_cap (n + js_dg v0) cap + 0 + 0 ≤ js_cap (n + js_dg v0) cap; omega⟩) hS (fun v w H locs qq hP hD hS => ?_)
  obtain ⟨f3, rfl, rfl, hf3, hk3, hd3⟩ := qq
  show W p l e _ s m _ below meth c H locs _ _ _ (F0 m 33 ls [.int (nI n)])
  have hP : va_P D js_cl (js_b cB b d2 cap2 n ml f3) H := hP
  have hD : va_D A (js_b cB b d2 cap2 n ml f3) := hD
  have hE : EV s H := js_E hm hS hE0
  have hA := js_A hS hA0
  refine lv_pop hx hb (show decode cJ5_append_c97b9 33 = .ok (.pop, 1) by decide +kernel) rfl ?_
  refine lv_goto hx hb (show decode cJ5_append_c97b9 34 = .ok (.goto 14, 3) by decide +kernel) (tgt := 48) (by decide) ?_
  refine lv_aload_n hx hb (show decode cJ5_append_c97b9 48 = .ok (.aload_n 0, 1) by decide +kernel) rfl (lv_at hl 2 rfl) ?_
  refine lv_iload_n hx hb (show decode cJ5_append_c97b9 49 = .ok (.iload_n 3, 1) by decide +kernel) rfl (lv_at hl 0 rfl) ?_
  refine va_put hx hb hts js_u4 tyJ4 tyJ4_ok nmJ4 hown hK hP hD hS 0 rfl rfl 3 (by decide) (hts _ (js_in 3 rfl)) (fun _ h => h) rfl (ty := tyJ4 3) (by decide) rfl rfl (Nat.le_of_ble_eq_true rfl) (show decode cJ5_append_c97b9 50 = .ok (.putfield 79, 3) by decide +kernel) (fun H locs hP hD hS => ?_)
  have hP : va_P D js_cl (js_b cB b d2 cap2 (n + js_dg v0) ml f3) H := hP
  have hD : va_D A (js_b cB b d2 cap2 (n + js_dg v0) ml f3) := hD
  have hE : EV s H := js_E hm hS hE0
  have hA := js_A hS hA0
  refine lv_aload_n hx hb (show decode cJ5_append_c97b9 53 = .ok (.aload_n 0, 1) by decide +kernel) rfl (lv_at hl 2 rfl) ?_
  refine W.widen (by show 0 + 0 + 1 + 0 + 0 ≤ 1; omega) (by show 0 + 0 + js_cap (n + js_dg v0) cap + 0 + 0 ≤ js_cap (n + js_dg v0) cap; omega) ?_
  exact W.aret hx hb hr (Or.inl ⟨_, rfl⟩) (Or.inr ⟨_, rfl⟩) (fun t ht _ => ⟨⟨_, js_b cB b d2 cap2 (n + js_dg v0) ml f3, rfl, ⟨d2, cap2, f3, rfl, rfl, hq1, hq2, hf3, fun j hj => (hk3 j hj).trans (hk2 j (by omega)), hd3⟩, by rw [ht]; exact hP, hD⟩, hS.F ht⟩) hS.2.2 (show decode cJ5_append_c97b9 54 = .ok (.areturn, 1) by decide +kernel) hlocks
set_option maxHeartbeats 1000000 in
theorem jc_appendI {l : Launch} {D : va_G} {cB : ClassId} {A : Nat → Prop} {EV : State → Heap → Prop} (hg : ∀ w ∈ am_WS jsW, goodWord w = true) (hm : am_EVm A EV) (hB : ss_B A EV) {b d cap n : Nat} {ml : Int32} {f : Nat → Int32} {v0 : Nat} (hv : v0 < 100) (hT9 : js_T A EV) (hn9 : n ≤ cap) (hcap : cap ≤ 9000) (hf : js_ft f) : Met l yJ4_append_bf812 (Cond.code yJ4_append_bf812 cJ4_append_bf812 2 (some (.object "java/lang/StringBuilder")) :: am_WS jsW) ({ frames := 7, cells := 1, slots := js_cap (n + js_dg v0) cap, locals := 300 }) (js_Pc D cB A EV [.ref b, .int (nI v0)] (js_b cB b d cap n ml f)) (js_Q D A (fun v w => ∃ d2 cap2 f2, v = some (.ref b) ∧ w = js_b cB b d2 cap2 (n + js_dg v0) ml f2 ∧ n + js_dg v0 ≤ cap2 ∧ (cap2 ≤ 2 * cap + 2 + (n + js_dg v0) ∧ cap2 = js_nc (n + js_dg v0) cap) ∧ js_ft f2 ∧ (∀ j, j < n → f2 j = f j) ∧ ∀ j, j < js_dg v0 → f2 (n + j) = Int32.ofNat (js_dd v0 j))) (1) (js_cap (n + js_dg v0) cap) A := by
  refine Met.ofW (cc := cJ4_append_bf812) (maxL := 2) (ret := (some (.object "java/lang/StringBuilder"))) (by decide) rfl ?_
  intro p e s m args below meth c s₁ B hml hv
  obtain ⟨rfl, hP, hD, hK, hA0, hE0⟩ := hv
  have hx := B.exec
  have hb := B.bytes
  have hr := B.returns
  have hlocks := B.notSynchronized
  have hts0 := atoms_spec (ws := Cond.code yJ4_append_bf812 cJ4_append_bf812 2 (some (.object "java/lang/StringBuilder")) :: am_WS jsW) B.pre
  have hts : ∀ w ∈ am_WS jsW, w.before ([.ref b, .int (nI v0)] : List Value).toArray s = true := fun w hw => hts0 w (List.mem_cons_of_mem _ hw)
  have hown : s.vm.findClass RJ4 = some m.cls := findClass_of_methodNamed B.named
  have hS : va_S A s.heap s.heap [] := va_S.rf
  have hl := lv_entry ([.ref b, .int (nI v0)]) (n := 2) (Nat.le_of_ble_eq_true rfl)
  rw [lg_entry_eq]
  generalize (lg_sl ([.ref b, .int (nI v0)]) ++ List.replicate (2 - (lg_sl ([.ref b, .int (nI v0)])).length) Slot.unset).toArray = ls at hl ⊢
  have hl : lv_has ls 2 [(0, .ref b), (1, .int (nI v0))] := hl
  have hE : EV s s.heap := hE0
  have hA := hA0
  refine lv_aload_n hx hb (show decode cJ4_append_bf812 0 = .ok (.aload_n 0, 1) by decide +kernel) rfl (lv_at hl 0 rfl) ?_
  refine lv_iload_n hx hb (show decode cJ4_append_bf812 1 = .ok (.iload_n 1, 1) by decide +kernel) rfl (lv_at hl 1 rfl) ?_
  have hgd9 : GoodIn (am_WS jsW) (va_wsSU RJ4 53 yJ5_append_c97b9 (Cond.code yJ5_append_c97b9 cJ5_append_c97b9 4 (some (.object "java/lang/AbstractStringBuilder")) :: am_WS jsW)) := (am_goodIn hg (fun w hw => by
      unfold va_wsSU at hw
      rcases List.mem_append.mp hw with hw | hw
      · rcases List.mem_cons.mp hw with rfl | hw
        · exact (js_in 71 rfl)
        rcases List.mem_cons.mp hw with rfl | hw
        · exact (js_in 72 rfl)
        rcases List.mem_cons.mp hw with rfl | hw
        · exact (js_in 55 rfl)
        rcases List.mem_cons.mp hw with rfl | hw
        · exact (js_in 73 rfl)
        rcases List.mem_cons.mp hw with rfl | hw
        · exact (js_in 24 rfl)
        cases hw
      · rcases List.mem_cons.mp hw with rfl | hw
        · exact (js_in 74 rfl)
        · exact hw))
  refine js_call (va_runSU (cc := cJ4_append_bf812) (C := RJ4) (hK.1 0 _ rfl).2 (As := [.int (nI v0)]) (b := b) (rest := []) ⟨hx, hb, hml, hown, hts⟩ (jc_appendI5 (b := b) (d := d) (cap := cap) (n := n) (ml := ml) (f := f) (v0 := v0) hg hm hB hv hT9 hn9 hcap hf) (va_cwSU 1 hts hgd9 rfl rfl rfl (by decide +kernel) ⟨Nat.le_of_ble_eq_true rfl, Nat.le_of_ble_eq_true rfl⟩) ⟨js_fb hm, js_recv hK hP 0 rfl, js_pre hm hP hD hK hA hE⟩ rfl rfl hl.1 rfl (lv_room (Nat.le_of_ble_eq_true rfl)) (show decode cJ4_append_bf812 2 = .ok (.invokespecial 53, 3) by decide +kernel) ⟨by show 0 + 1 ≤ 1; omega, by show 0 + js_cap (n + js_dg v0) cap ≤ js_cap (n + js_dg v0) cap; omega⟩) hS (fun v w H locs qq hP hD hS => ?_)
  obtain ⟨d2, cap2, f2, rfl, rfl, hq⟩ := qq
  show W p l e _ s m _ below meth c H locs _ _ _ (F0 m 5 ls [.ref b])
  have hP : va_P D js_cl (js_b cB b d2 cap2 (n + js_dg v0) ml f2) H := hP
  have hD : va_D A (js_b cB b d2 cap2 (n + js_dg v0) ml f2) := hD
  have hE : EV s H := js_E hm hS hE0
  have hA := js_A hS hA0
  refine lv_pop hx hb (show decode cJ4_append_bf812 5 = .ok (.pop, 1) by decide +kernel) rfl ?_
  refine lv_aload_n hx hb (show decode cJ4_append_bf812 6 = .ok (.aload_n 0, 1) by decide +kernel) rfl (lv_at hl 0 rfl) ?_
  refine W.widen (by show 0 + 1 ≤ 1; omega) (by show 0 + js_cap (n + js_dg v0) cap ≤ js_cap (n + js_dg v0) cap; omega) ?_
  exact W.aret hx hb hr (Or.inl ⟨_, rfl⟩) (Or.inr ⟨_, rfl⟩) (fun t ht _ => ⟨⟨_, js_b cB b d2 cap2 (n + js_dg v0) ml f2, rfl, ⟨d2, cap2, f2, rfl, rfl, hq⟩, by rw [ht]; exact hP, hD⟩, hS.F ht⟩) hS.2.2 (show decode cJ4_append_bf812 7 = .ok (.areturn, 1) by decide +kernel) hlocks
set_option maxHeartbeats 1000000 in
theorem jc_init5 {l : Launch} {D : va_G} {cB : ClassId} {A : Nat → Prop} {EV : State → Heap → Prop} (hg : ∀ w ∈ am_WS jsW, goodWord w = true) (hm : am_EVm A EV) (hB : ss_B A EV) {b : Nat} : Met l yJ5_init_d00df (Cond.code yJ5_init_d00df cJ5_init_d00df 2 none :: am_WS jsW) ({ frames := 1, cells := 1, slots := 16, locals := 40 }) (js_Pc D cB A EV [.ref b, .int 16] ([(b, .inr (0, [Value.null, .int 0, .int 0, .int 0]))])) (js_Q D A (fun v w => ∃ x, v = none ∧ w = js_b cB b x 16 0 0 (fun _ => 0))) (1) (16) A := by
  refine Met.ofW (cc := cJ5_init_d00df) (maxL := 2) (ret := none) (by decide) rfl ?_
  intro p e s m args below meth c s₁ B hml hv
  obtain ⟨rfl, hP, hD, hK, hA0, hE0⟩ := hv
  have hx := B.exec
  have hb := B.bytes
  have hr := B.returns
  have hlocks := B.notSynchronized
  have hts0 := atoms_spec (ws := Cond.code yJ5_init_d00df cJ5_init_d00df 2 none :: am_WS jsW) B.pre
  have hts : ∀ w ∈ am_WS jsW, w.before ([.ref b, .int 16] : List Value).toArray s = true := fun w hw => hts0 w (List.mem_cons_of_mem _ hw)
  have hown : s.vm.findClass RJ5 = some m.cls := findClass_of_methodNamed B.named
  have hS : va_S A s.heap s.heap [] := va_S.rf
  have hl := lv_entry ([.ref b, .int 16]) (n := 2) (Nat.le_of_ble_eq_true rfl)
  rw [lg_entry_eq]
  generalize (lg_sl ([.ref b, .int 16]) ++ List.replicate (2 - (lg_sl ([.ref b, .int 16])).length) Slot.unset).toArray = ls at hl ⊢
  have hl : lv_has ls 2 [(0, .ref b), (1, .int 16)] := hl
  have hE : EV s s.heap := hE0
  have hA := hA0
  refine lv_aload_n hx hb (show decode cJ5_init_d00df 0 = .ok (.aload_n 0, 1) by decide +kernel) rfl (lv_at hl 0 rfl) ?_
  refine W.objInit hx hb hown (hts _ (js_in 75 rfl)) (hts _ (js_in 76 rfl)) (hts _ (js_in 77 rfl)) rfl (by rw [hml]; exact hl.1) rfl (show decode cJ5_init_d00df 1 = .ok (.invokespecial 3, 3) by decide +kernel) (Nat.le_of_ble_eq_true rfl) (Nat.le_of_ble_eq_true rfl) ?_
  show W p l e _ s m _ below meth c _ _ _ _ _ (F0 m 4 ls [])
  refine va_gets hx hb (hB.1 _ _ hE0) hS hown (hts _ (js_in 0 rfl)) (fun _ h => h) (show decode cJ5_init_d00df 4 = .ok (.getstatic 18, 3) by decide +kernel) ?_
  refine lv_if_eq hx hb (show decode cJ5_init_d00df 7 = .ok (.ifCond .eq 18, 3) by decide +kernel) (tgt := 25) (by decide) (fun h => absurd h (by decide)) (fun _ => ?_)
  refine lv_aload_n hx hb (show decode cJ5_init_d00df 10 = .ok (.aload_n 0, 1) by decide +kernel) rfl (lv_at hl 0 rfl) ?_
  refine lv_iload_n hx hb (show decode cJ5_init_d00df 11 = .ok (.iload_n 1, 1) by decide +kernel) rfl (lv_at hl 1 rfl) ?_
  refine va_newa hx hb (atype := .byte) (a0 := (16, .inl (fun _ => 0))) (hts _ (js_in 9 rfl)) rfl hK hP hD hS hA0 (fun _ => rfl) (by decide) (by decide) (by decide) (by show 0 + 1 ≤ 1; omega) (by show 0 + 16 ≤ 16; omega) (show decode cJ5_init_d00df 12 = .ok (.newarray .byte, 2) by decide +kernel) (fun x cA H hK1 hP hD hS => ?_)
  rw [js_cB hK hK1] at hP hD
  have hP : va_P D js_cl ([(b, .inr (0, [Value.null, .int 0, .int 0, .int 0])), (x, .inl (cB, 16, .inl (fun _ => 0)))]) H := hP
  have hD : va_D A ([(b, .inr (0, [Value.null, .int 0, .int 0, .int 0])), (x, .inl (cB, 16, .inl (fun _ => 0)))]) := hD
  have hE : EV s H := js_E hm hS hE0
  have hA := js_A hS hA0
  refine va_put hx hb hts js_u4 tyJ4 tyJ4_ok nmJ4 hown hK hP hD hS 0 rfl rfl 0 (by decide) (hts _ (js_in 2 rfl)) (fun _ h => h) rfl (ty := tyJ4 0) (by decide) rfl rfl (Nat.le_of_ble_eq_true rfl) (show decode cJ5_init_d00df 14 = .ok (.putfield 15, 3) by decide +kernel) (fun H locs hP hD hS => ?_)
  have hP : va_P D js_cl (js_b cB b x 16 0 0 (fun _ => 0)) H := hP
  have hD : va_D A (js_b cB b x 16 0 0 (fun _ => 0)) := hD
  have hE : EV s H := js_E hm hS hE0
  have hA := js_A hS hA0
  refine lv_aload_n hx hb (show decode cJ5_init_d00df 17 = .ok (.aload_n 0, 1) by decide +kernel) rfl (lv_at hl 0 rfl) ?_
  refine lv_iconst hx hb (v := 0) (show decode cJ5_init_d00df 18 = .ok (.iconst 0, 1) by decide +kernel) (by decide) ?_
  refine va_put hx hb hts js_u4 tyJ4 tyJ4_ok nmJ4 hown hK hP hD hS 0 rfl rfl 1 (by decide) (hts _ (js_in 1 rfl)) (fun _ h => h) rfl (ty := tyJ4 1) (by decide) rfl rfl (Nat.le_of_ble_eq_true rfl) (show decode cJ5_init_d00df 19 = .ok (.putfield 22, 3) by decide +kernel) (fun H locs hP hD hS => ?_)
  have hP : va_P D js_cl (js_b cB b x 16 0 0 (fun _ => 0)) H := hP
  have hD : va_D A (js_b cB b x 16 0 0 (fun _ => 0)) := hD
  have hE : EV s H := js_E hm hS hE0
  have hA := js_A hS hA0
  refine lv_goto hx hb (show decode cJ5_init_d00df 22 = .ok (.goto 16, 3) by decide +kernel) (tgt := 38) (by decide) ?_
  refine W.widen (by show 0 + 1 ≤ 1; omega) (by show 0 + 16 ≤ 16; omega) ?_
  exact W.vret hx hb hr (fun t ht _ => ⟨⟨_, js_b cB b x 16 0 0 (fun _ => 0), rfl, ⟨x, rfl, rfl⟩, by rw [ht]; exact hP, hD⟩, hS.F ht⟩) hS.2.2 (show decode cJ5_init_d00df 38 = .ok (.return_, 1) by decide +kernel) hlocks
set_option maxHeartbeats 1000000 in
theorem jc_init {l : Launch} {D : va_G} {cB : ClassId} {A : Nat → Prop} {EV : State → Heap → Prop} (hg : ∀ w ∈ am_WS jsW, goodWord w = true) (hm : am_EVm A EV) (hB : ss_B A EV) {b : Nat} : Met l yJ4_init_da8c8 (Cond.code yJ4_init_da8c8 cJ4_init_da8c8 1 none :: am_WS jsW) ({ frames := 2, cells := 1, slots := 16, locals := 80 }) (js_Pc D cB A EV [.ref b] ([(b, .inr (0, [Value.null, .int 0, .int 0, .int 0]))])) (js_Q D A (fun v w => ∃ x, v = none ∧ w = js_b cB b x 16 0 0 (fun _ => 0))) (1) (16) A := by
  refine Met.ofW (cc := cJ4_init_da8c8) (maxL := 1) (ret := none) (by decide) rfl ?_
  intro p e s m args below meth c s₁ B hml hv
  obtain ⟨rfl, hP, hD, hK, hA0, hE0⟩ := hv
  have hx := B.exec
  have hb := B.bytes
  have hr := B.returns
  have hlocks := B.notSynchronized
  have hts0 := atoms_spec (ws := Cond.code yJ4_init_da8c8 cJ4_init_da8c8 1 none :: am_WS jsW) B.pre
  have hts : ∀ w ∈ am_WS jsW, w.before ([.ref b] : List Value).toArray s = true := fun w hw => hts0 w (List.mem_cons_of_mem _ hw)
  have hown : s.vm.findClass RJ4 = some m.cls := findClass_of_methodNamed B.named
  have hS : va_S A s.heap s.heap [] := va_S.rf
  have hl := lv_entry ([.ref b]) (n := 1) (Nat.le_of_ble_eq_true rfl)
  rw [lg_entry_eq]
  generalize (lg_sl ([.ref b]) ++ List.replicate (1 - (lg_sl ([.ref b])).length) Slot.unset).toArray = ls at hl ⊢
  have hl : lv_has ls 1 [(0, .ref b)] := hl
  have hE : EV s s.heap := hE0
  have hA := hA0
  refine lv_aload_n hx hb (show decode cJ4_init_da8c8 0 = .ok (.aload_n 0, 1) by decide +kernel) rfl (lv_at hl 0 rfl) ?_
  refine lv_bipush hx hb (v := 16) (show decode cJ4_init_da8c8 1 = .ok (.bipush 16, 2) by decide +kernel) (by decide) ?_
  refine js_call (va_runI (cc := cJ4_init_da8c8) (As := [.int 16]) (b := b) (rest := []) ⟨hx, hb, hml, hown, hts⟩ (jc_init5 (b := b) hg hm hB) ⟨callB_of 1 hts (am_goodIn hg (fun w hw => by rcases List.mem_cons.mp hw with rfl | hw; exact js_in 78 rfl; exact hw)) rfl rfl rfl (hts _ (js_in 24 rfl)) (hts (.methodLink RJ4 1 yJ5_init_d00df) (js_in 79 rfl)) (by decide +kernel) ⟨Nat.le_of_ble_eq_true rfl, Nat.le_of_ble_eq_true rfl⟩, rfl, (hts _ (js_in 80 rfl))⟩ ⟨js_fb hm, js_pre hm hP hD hK hA hE⟩ rfl rfl hl.1 rfl (lv_room (Nat.le_of_ble_eq_true rfl)) (show decode cJ4_init_da8c8 3 = .ok (.invokespecial 1, 3) by decide +kernel) ⟨by show 0 + 1 ≤ 1; omega, by show 0 + 16 ≤ 16; omega⟩) hS (fun v w H locs qq hP hD hS => ?_)
  obtain ⟨x, rfl, rfl⟩ := qq
  show W p l e _ s m _ below meth c H locs _ _ _ (F0 m 6 ls [])
  have hP : va_P D js_cl (js_b cB b x 16 0 0 (fun _ => 0)) H := hP
  have hD : va_D A (js_b cB b x 16 0 0 (fun _ => 0)) := hD
  have hE : EV s H := js_E hm hS hE0
  have hA := js_A hS hA0
  refine W.widen (by show 0 + 1 ≤ 1; omega) (by show 0 + 16 ≤ 16; omega) ?_
  exact W.vret hx hb hr (fun t ht _ => ⟨⟨_, js_b cB b x 16 0 0 (fun _ => 0), rfl, ⟨x, rfl, rfl⟩, by rw [ht]; exact hP, hD⟩, hS.F ht⟩) hS.2.2 (show decode cJ4_init_da8c8 6 = .ok (.return_, 1) by decide +kernel) hlocks
