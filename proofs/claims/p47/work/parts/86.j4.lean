/-! THE JDK'S STRINGBUILDER: append of a String -/
set_option maxHeartbeats 1000000 in
theorem jc_putString {l : Launch} {D : va_G} {cB : ClassId} {A : Nat → Prop} {EV : State → Heap → Prop} (hg : ∀ w ∈ am_WS jsW, goodWord w = true) (hm : am_EVm A EV) (hB : ss_B A EV) {b d cap n : Nat} {ml : Int32} {f : Nat → Int32} {ty : String} {a v0 : Nat} (hS0 : ∀ (U : State) (H : Heap), EV U H → ev_S A ty a v0 U H) (hty : ∀ c ∈ ty.toList, c.toNat < 128) (hr9 : n + ty.length ≤ cap) (hcap : cap ≤ 65536) : Met l yJ5_putStringAt_47b60 (Cond.code yJ5_putStringAt_47b60 cJ5_putStringAt_47b60 3 none :: am_WS jsW) ({ frames := 3, cells := 0, slots := 0, locals := 140 }) (js_Pc D cB A EV [.ref b, .int (nI n), .ref a] (js_b cB b d cap n ml f)) (js_Q D A (fun v w => v = none ∧ w = js_b cB b d cap n ml (va_cpy (fun j => (ev_by ty).getD j 0) f 0 n ty.length))) (0) (0) A := by
  refine Met.ofW (cc := cJ5_putStringAt_47b60) (maxL := 3) (ret := none) (by decide) rfl ?_
  intro p e s m args below meth c s₁ B hml hv
  obtain ⟨rfl, hP, hD, hK, hA0, hE0⟩ := hv
  have hx := B.exec
  have hb := B.bytes
  have hr := B.returns
  have hlocks := B.notSynchronized
  have hts0 := atoms_spec (ws := Cond.code yJ5_putStringAt_47b60 cJ5_putStringAt_47b60 3 none :: am_WS jsW) B.pre
  have hts : ∀ w ∈ am_WS jsW, w.before ([.ref b, .int (nI n), .ref a] : List Value).toArray s = true := fun w hw => hts0 w (List.mem_cons_of_mem _ hw)
  have hown : s.vm.findClass RJ5 = some m.cls := findClass_of_methodNamed B.named
  have hS : va_S A s.heap s.heap [] := va_S.rf
  have hl := lv_entry ([.ref b, .int (nI n), .ref a]) (n := 3) (Nat.le_of_ble_eq_true rfl)
  rw [lg_entry_eq]
  generalize (lg_sl ([.ref b, .int (nI n), .ref a]) ++ List.replicate (3 - (lg_sl ([.ref b, .int (nI n), .ref a])).length) Slot.unset).toArray = ls at hl ⊢
  have hl : lv_has ls 3 [(0, .ref b), (1, .int (nI n)), (2, .ref a)] := hl
  have hE : EV s s.heap := hE0
  have hA := hA0
  refine lv_aload_n hx hb (show decode cJ5_putStringAt_47b60 0 = .ok (.aload_n 0, 1) by decide +kernel) rfl (lv_at hl 0 rfl) ?_
  refine lv_aload_n hx hb (show decode cJ5_putStringAt_47b60 1 = .ok (.aload_n 2, 1) by decide +kernel) rfl (lv_at hl 2 rfl) ?_
  refine js_call (va_runV (cc := cJ5_putStringAt_47b60) (C := RJ4) (As := [.ref a]) (b := b) (rest := []) ⟨hx, hb, hml, hown, hts⟩ (jc_inflateIf (b := b) (d := d) (cap := cap) (n := n) (ml := ml) (f := f) hg hm hB hS0) ⟨callB_of 1 hts (am_goodIn hg (fun w hw => by rcases List.mem_cons.mp hw with rfl | hw; exact js_in 36 rfl; exact hw)) rfl rfl rfl (hts _ (js_in 24 rfl)) (hts (.methodLink RJ5 397 yJ5_inflateIfNeededFor_a7421) (js_in 37 rfl)) (by decide +kernel) ⟨Nat.le_of_ble_eq_true rfl, Nat.le_of_ble_eq_true rfl⟩, (hts _ (js_in 38 rfl)), (hts _ (js_in 35 rfl))⟩ ⟨js_fb hm, js_recv hK hP 0 rfl, js_pre hm hP hD hK hA hE⟩ rfl rfl hl.1 rfl (lv_room (Nat.le_of_ble_eq_true rfl)) (show decode cJ5_putStringAt_47b60 2 = .ok (.invokevirtual 397, 3) by decide +kernel) ⟨by show 0 + 0 ≤ 0; omega, by show 0 + 0 ≤ 0; omega⟩) hS (fun v w H locs qq hP hD hS => ?_)
  obtain ⟨rfl, rfl⟩ := qq
  show W p l e _ s m _ below meth c H locs _ _ _ (F0 m 5 ls [])
  have hP : va_P D js_cl (js_b cB b d cap n ml f) H := hP
  have hD : va_D A (js_b cB b d cap n ml f) := hD
  have hE : EV s H := js_E hm hS hE0
  have hA := js_A hS hA0
  refine lv_aload_n hx hb (show decode cJ5_putStringAt_47b60 5 = .ok (.aload_n 2, 1) by decide +kernel) rfl (lv_at hl 2 rfl) ?_
  refine lv_aload_n hx hb (show decode cJ5_putStringAt_47b60 6 = .ok (.aload_n 0, 1) by decide +kernel) rfl (lv_at hl 0 rfl) ?_
  refine va_get hx hb hts js_u4 hown hK hP 0 rfl rfl 0 (by decide) (hts _ (js_in 2 rfl)) (fun _ h => h) (v := .ref d) rfl (show decode cJ5_putStringAt_47b60 7 = .ok (.getfield 15, 3) by decide +kernel) ?_
  refine lv_iload_n hx hb (show decode cJ5_putStringAt_47b60 10 = .ok (.iload_n 1, 1) by decide +kernel) rfl (lv_at hl 1 rfl) ?_
  refine lv_aload_n hx hb (show decode cJ5_putStringAt_47b60 11 = .ok (.aload_n 0, 1) by decide +kernel) rfl (lv_at hl 0 rfl) ?_
  refine va_get hx hb hts js_u4 hown hK hP 0 rfl rfl 1 (by decide) (hts _ (js_in 1 rfl)) (fun _ h => h) (v := .int 0) rfl (show decode cJ5_putStringAt_47b60 12 = .ok (.getfield 22, 3) by decide +kernel) ?_
  refine js_call (va_runV (cc := cJ5_putStringAt_47b60) (C := RJ0) (As := [.ref d, .int (nI n), .int 0]) (b := a) (rest := []) ⟨hx, hb, hml, hown, hts⟩ (jc_getBytes (b := b) (d := d) (cap := cap) (n := n) (ml := ml) (f := f) hg hm hB hS0 hty hr9 hcap) ⟨callB_of 3 hts (am_goodIn hg (fun w hw => by rcases List.mem_cons.mp hw with rfl | hw; exact js_in 39 rfl; exact hw)) rfl rfl rfl (hts _ (js_in 40 rfl)) (hts (.methodLink RJ5 399 yJ0_getBytes_840e7) (js_in 41 rfl)) (by decide +kernel) ⟨Nat.le_of_ble_eq_true rfl, Nat.le_of_ble_eq_true rfl⟩, (hts _ (js_in 42 rfl)), (hts _ (js_in 43 rfl))⟩ ⟨js_fb hm, ss_recv hS0 hE, js_pre hm hP hD hK hA hE⟩ rfl rfl hl.1 rfl (lv_room (Nat.le_of_ble_eq_true rfl)) (show decode cJ5_putStringAt_47b60 15 = .ok (.invokevirtual 399, 3) by decide +kernel) ⟨by show 0 + 0 + 0 ≤ 0; omega, by show 0 + 0 + 0 ≤ 0; omega⟩) hS (fun v w H locs qq hP hD hS => ?_)
  obtain ⟨rfl, rfl⟩ := qq
  show W p l e _ s m _ below meth c H locs _ _ _ (F0 m 18 ls [])
  have hP : va_P D js_cl (js_b cB b d cap n ml (va_cpy (fun j => (ev_by ty).getD j 0) f 0 n ty.length)) H := hP
  have hD : va_D A (js_b cB b d cap n ml (va_cpy (fun j => (ev_by ty).getD j 0) f 0 n ty.length)) := hD
  have hE : EV s H := js_E hm hS hE0
  have hA := js_A hS hA0
  exact W.vret hx hb hr (fun t ht _ => ⟨⟨_, js_b cB b d cap n ml (va_cpy (fun j => (ev_by ty).getD j 0) f 0 n ty.length), rfl, ⟨rfl, rfl⟩, by rw [ht]; exact hP, hD⟩, hS.F ht⟩) hS.2.2 (show decode cJ5_putStringAt_47b60 18 = .ok (.return_, 1) by decide +kernel) hlocks
set_option maxHeartbeats 1000000 in
theorem jc_appendS5 {l : Launch} {D : va_G} {cB : ClassId} {A : Nat → Prop} {EV : State → Heap → Prop} (hg : ∀ w ∈ am_WS jsW, goodWord w = true) (hm : am_EVm A EV) (hB : ss_B A EV) {b d cap n : Nat} {ml : Int32} {f : Nat → Int32} {ty : String} {a v0 : Nat} (hS0 : ∀ (U : State) (H : Heap), EV U H → ev_S A ty a v0 U H) (hty : ty.length < 100 ∧ ∀ c ∈ ty.toList, c.toNat < 128) (hn9 : n ≤ cap) (hcap : cap ≤ 9000) (hf : js_ft f) : Met l yJ5_append_cf1ce (Cond.code yJ5_append_cf1ce cJ5_append_cf1ce 3 (some (.object "java/lang/AbstractStringBuilder")) :: am_WS jsW) ({ frames := 6, cells := 1, slots := js_cap (n + ty.length) cap, locals := 260 }) (js_Pc D cB A EV [.ref b, .ref a] (js_b cB b d cap n ml f)) (js_Q D A (fun v w => ∃ d2 cap2 f2, v = some (.ref b) ∧ w = js_b cB b d2 cap2 (n + ty.length) ml f2 ∧ n + ty.length ≤ cap2 ∧ (cap2 ≤ 2 * cap + 2 + (n + ty.length) ∧ cap2 = js_nc (n + ty.length) cap) ∧ js_ft f2 ∧ (∀ j, j < n → f2 j = f j) ∧ ∀ j, j < ty.length → f2 (n + j) = (ev_by ty).getD j 0)) (1) (js_cap (n + ty.length) cap) A := by
  refine Met.ofW (cc := cJ5_append_cf1ce) (maxL := 3) (ret := (some (.object "java/lang/AbstractStringBuilder"))) (by decide) rfl ?_
  intro p e s m args below meth c s₁ B hml hv
  obtain ⟨rfl, hP, hD, hK, hA0, hE0⟩ := hv
  have hx := B.exec
  have hb := B.bytes
  have hr := B.returns
  have hlocks := B.notSynchronized
  have hts0 := atoms_spec (ws := Cond.code yJ5_append_cf1ce cJ5_append_cf1ce 3 (some (.object "java/lang/AbstractStringBuilder")) :: am_WS jsW) B.pre
  have hts : ∀ w ∈ am_WS jsW, w.before ([.ref b, .ref a] : List Value).toArray s = true := fun w hw => hts0 w (List.mem_cons_of_mem _ hw)
  have hown : s.vm.findClass RJ5 = some m.cls := findClass_of_methodNamed B.named
  have hS : va_S A s.heap s.heap [] := va_S.rf
  have hl := lv_entry ([.ref b, .ref a]) (n := 3) (Nat.le_of_ble_eq_true rfl)
  rw [lg_entry_eq]
  generalize (lg_sl ([.ref b, .ref a]) ++ List.replicate (3 - (lg_sl ([.ref b, .ref a])).length) Slot.unset).toArray = ls at hl ⊢
  have hl : lv_has ls 3 [(0, .ref b), (1, .ref a)] := hl
  have hE : EV s s.heap := hE0
  have hA := hA0
  refine lv_aload_n hx hb (show decode cJ5_append_cf1ce 0 = .ok (.aload_n 1, 1) by decide +kernel) rfl (lv_at hl 1 rfl) ?_
  refine lv_ifnonnull hx hb (show decode cJ5_append_cf1ce 1 = .ok (.ifnonnull 8, 3) by decide +kernel) (tgt := 9) (by decide) ?_
  refine lv_aload_n hx hb (show decode cJ5_append_cf1ce 9 = .ok (.aload_n 1, 1) by decide +kernel) rfl (lv_at hl 1 rfl) ?_
  refine ss_call (va_runV (cc := cJ5_append_cf1ce) (C := RJ0) (As := []) (b := a) (rest := []) ⟨hx, hb, hml, hown, hts⟩ (ss_c6 hg hm hB hS0 hty.1) ⟨callB_of 0 hts (am_goodIn hg (fun w hw => by rcases List.mem_cons.mp hw with rfl | hw; exact ss_in 0 rfl; exact hw)) rfl rfl rfl (hts _ (ss_in 8 rfl)) (hts (.methodLink RJ5 32 yJ0_length_8abf5) (js_in 44 rfl)) (by decide +kernel) ⟨Nat.le_of_ble_eq_true rfl, Nat.le_of_ble_eq_true rfl⟩, hts _ (ss_in 9 rfl), hts _ (ss_in 10 rfl)⟩ ⟨ss_fb hm, ss_recv hS0 hE, ss_pre hm hE⟩ rfl rfl hl.1 rfl (lv_room (Nat.le_of_ble_eq_true rfl)) (show decode cJ5_append_cf1ce 10 = .ok (.invokevirtual 32, 3) by decide +kernel) ⟨by show 0 + 0 ≤ 1; omega, by show 0 + 0 ≤ js_cap (n + ty.length) cap; omega⟩) ?_
  show W p l e _ s m _ below meth c _ _ _ _ _ (F0 m 13 ls [.int (nI ty.length)])
  refine lv_istore_n hx hb (show decode cJ5_append_cf1ce 13 = .ok (.istore_n 2, 1) by decide +kernel) rfl hl (by decide) rfl (fun ls hl => ?_)
  have hl : lv_has ls 3 [(2, .int (nI ty.length)), (0, .ref b), (1, .ref a)] := hl
  refine lv_aload_n hx hb (show decode cJ5_append_cf1ce 14 = .ok (.aload_n 0, 1) by decide +kernel) rfl (lv_at hl 1 rfl) ?_
  refine lv_aload_n hx hb (show decode cJ5_append_cf1ce 15 = .ok (.aload_n 0, 1) by decide +kernel) rfl (lv_at hl 1 rfl) ?_
  refine va_get hx hb hts js_u4 hown hK hP 0 rfl rfl 3 (by decide) (hts _ (js_in 3 rfl)) (fun _ h => h) (v := .int (nI n)) rfl (show decode cJ5_append_cf1ce 16 = .ok (.getfield 79, 3) by decide +kernel) ?_
  refine lv_iload_n hx hb (show decode cJ5_append_cf1ce 19 = .ok (.iload_n 2, 1) by decide +kernel) rfl (lv_at hl 0 rfl) ?_
  refine lv_iadd hx hb (show decode cJ5_append_cf1ce 20 = .ok (.iadd, 1) by decide +kernel) ?_
  rw [show (((nI n) + (nI ty.length)) : Int32) = (nI (n + ty.length)) from (nI_add _ _)]
  refine js_call (va_runV (cc := cJ5_append_cf1ce) (C := RJ4) (As := [.int (nI (n + ty.length))]) (b := b) (rest := []) ⟨hx, hb, hml, hown, hts⟩ (jc_ensure (b := b) (d := d) (cap := cap) (n := n) (ml := ml) (f := f) (q := n + ty.length) hg hm hB (by omega) (by omega) hf) ⟨callB_of 1 hts (am_goodIn hg (fun w hw => by rcases List.mem_cons.mp hw with rfl | hw; exact js_in 46 rfl; exact hw)) rfl rfl rfl (hts _ (js_in 24 rfl)) (hts (.methodLink RJ5 100 yJ5_ensureCapacityInternal_d00df) (js_in 47 rfl)) (by decide +kernel) ⟨Nat.le_of_ble_eq_true rfl, Nat.le_of_ble_eq_true rfl⟩, (hts _ (js_in 48 rfl)), (hts _ (js_in 45 rfl))⟩ ⟨js_fb hm, js_recv hK hP 0 rfl, js_pre hm hP hD hK hA hE⟩ rfl rfl hl.1 rfl (lv_room (Nat.le_of_ble_eq_true rfl)) (show decode cJ5_append_cf1ce 21 = .ok (.invokevirtual 100, 3) by decide +kernel) ⟨by show 0 + 1 ≤ 1; omega, by show 0 + js_cap (n + ty.length) cap ≤ js_cap (n + ty.length) cap; omega⟩) hS (fun v w H locs qq hP hD hS => ?_)
  obtain ⟨d2, cap2, f2, rfl, rfl, hq1, hq2, hf2, hk2⟩ := qq
  show W p l e _ s m _ below meth c H locs _ _ _ (F0 m 24 ls [])
  have hP : va_P D js_cl (js_b cB b d2 cap2 n ml f2) H := hP
  have hD : va_D A (js_b cB b d2 cap2 n ml f2) := hD
  have hE : EV s H := js_E hm hS hE0
  have hA := js_A hS hA0
  refine lv_aload_n hx hb (show decode cJ5_append_cf1ce 24 = .ok (.aload_n 0, 1) by decide +kernel) rfl (lv_at hl 1 rfl) ?_
  refine lv_aload_n hx hb (show decode cJ5_append_cf1ce 25 = .ok (.aload_n 0, 1) by decide +kernel) rfl (lv_at hl 1 rfl) ?_
  refine va_get hx hb hts js_u4 hown hK hP 0 rfl rfl 3 (by decide) (hts _ (js_in 3 rfl)) (fun _ h => h) (v := .int (nI n)) rfl (show decode cJ5_append_cf1ce 26 = .ok (.getfield 79, 3) by decide +kernel) ?_
  refine lv_aload_n hx hb (show decode cJ5_append_cf1ce 29 = .ok (.aload_n 1, 1) by decide +kernel) rfl (lv_at hl 2 rfl) ?_
  refine js_call (va_runV (cc := cJ5_append_cf1ce) (C := RJ4) (As := [.int (nI n), .ref a]) (b := b) (rest := []) ⟨hx, hb, hml, hown, hts⟩ (jc_putString (b := b) (d := d2) (cap := cap2) (n := n) (ml := ml) (f := f2) hg hm hB hS0 hty.2 hq1 (by omega)) ⟨callB_of 2 hts (am_goodIn hg (fun w hw => by rcases List.mem_cons.mp hw with rfl | hw; exact js_in 50 rfl; exact hw)) rfl rfl rfl (hts _ (js_in 24 rfl)) (hts (.methodLink RJ5 208 yJ5_putStringAt_47b60) (js_in 51 rfl)) (by decide +kernel) ⟨Nat.le_of_ble_eq_true rfl, Nat.le_of_ble_eq_true rfl⟩, (hts _ (js_in 52 rfl)), (hts _ (js_in 49 rfl))⟩ ⟨js_fb hm, js_recv hK hP 0 rfl, js_pre hm hP hD hK hA hE⟩ rfl rfl hl.1 rfl (lv_room (Nat.le_of_ble_eq_true rfl)) (show decode cJ5_append_cf1ce 30 = .ok (.invokevirtual 208, 3) by decide +kernel) ⟨by show 0 + 1 + 0 ≤ 1; omega, by show 0 + js_cap (n + ty.length) cap + 0 ≤ js_cap (n + ty.length) cap; omega⟩) hS (fun v w H locs qq hP hD hS => ?_)
  obtain ⟨rfl, rfl⟩ := qq
  show W p l e _ s m _ below meth c H locs _ _ _ (F0 m 33 ls [])
  have hP : va_P D js_cl (js_b cB b d2 cap2 n ml (va_cpy (fun j => (ev_by ty).getD j 0) f2 0 n ty.length)) H := hP
  have hD : va_D A (js_b cB b d2 cap2 n ml (va_cpy (fun j => (ev_by ty).getD j 0) f2 0 n ty.length)) := hD
  have hE : EV s H := js_E hm hS hE0
  have hA := js_A hS hA0
  refine lv_aload_n hx hb (show decode cJ5_append_cf1ce 33 = .ok (.aload_n 0, 1) by decide +kernel) rfl (lv_at hl 1 rfl) ?_
  refine lv_dup hx hb (show decode cJ5_append_cf1ce 34 = .ok (.dup, 1) by decide +kernel) rfl ?_
  refine va_get hx hb hts js_u4 hown hK hP 0 rfl rfl 3 (by decide) (hts _ (js_in 3 rfl)) (fun _ h => h) (v := .int (nI n)) rfl (show decode cJ5_append_cf1ce 35 = .ok (.getfield 79, 3) by decide +kernel) ?_
  refine lv_iload_n hx hb (show decode cJ5_append_cf1ce 38 = .ok (.iload_n 2, 1) by decide +kernel) rfl (lv_at hl 0 rfl) ?_
  refine lv_iadd hx hb (show decode cJ5_append_cf1ce 39 = .ok (.iadd, 1) by decide +kernel) ?_
  rw [show (((nI n) + (nI ty.length)) : Int32) = (nI (n + ty.length)) from (nI_add _ _)]
  refine va_put hx hb hts js_u4 tyJ4 tyJ4_ok nmJ4 hown hK hP hD hS 0 rfl rfl 3 (by decide) (hts _ (js_in 3 rfl)) (fun _ h => h) rfl (ty := tyJ4 3) (by decide) rfl rfl (Nat.le_of_ble_eq_true rfl) (show decode cJ5_append_cf1ce 40 = .ok (.putfield 79, 3) by decide +kernel) (fun H locs hP hD hS => ?_)
  have hP : va_P D js_cl (js_b cB b d2 cap2 (n + ty.length) ml (va_cpy (fun j => (ev_by ty).getD j 0) f2 0 n ty.length)) H := hP
  have hD : va_D A (js_b cB b d2 cap2 (n + ty.length) ml (va_cpy (fun j => (ev_by ty).getD j 0) f2 0 n ty.length)) := hD
  have hE : EV s H := js_E hm hS hE0
  have hA := js_A hS hA0
  refine lv_aload_n hx hb (show decode cJ5_append_cf1ce 43 = .ok (.aload_n 0, 1) by decide +kernel) rfl (lv_at hl 1 rfl) ?_
  refine W.widen (by show 0 + 1 + 0 ≤ 1; omega) (by show 0 + js_cap (n + ty.length) cap + 0 ≤ js_cap (n + ty.length) cap; omega) ?_
  exact W.aret hx hb hr (Or.inl ⟨_, rfl⟩) (Or.inr ⟨_, rfl⟩) (fun t ht _ => ⟨⟨_, js_b cB b d2 cap2 (n + ty.length) ml (va_cpy (fun j => (ev_by ty).getD j 0) f2 0 n ty.length), rfl, ⟨d2, cap2, _, rfl, rfl, hq1, hq2, js_ftc (fun j => ev_byf hty.2 j) hf2, fun j hj => by unfold va_cpy; rw [if_neg (by omega)]; exact hk2 j (by omega), fun j hj => by unfold va_cpy; rw [if_pos (by omega)]; show (ev_by ty).getD _ 0 = _; congr 1; omega⟩, by rw [ht]; exact hP, hD⟩, hS.F ht⟩) hS.2.2 (show decode cJ5_append_cf1ce 44 = .ok (.areturn, 1) by decide +kernel) hlocks
set_option maxHeartbeats 1000000 in
theorem jc_appendS {l : Launch} {D : va_G} {cB : ClassId} {A : Nat → Prop} {EV : State → Heap → Prop} (hg : ∀ w ∈ am_WS jsW, goodWord w = true) (hm : am_EVm A EV) (hB : ss_B A EV) {b d cap n : Nat} {ml : Int32} {f : Nat → Int32} {ty : String} {a v0 : Nat} (hS0 : ∀ (U : State) (H : Heap), EV U H → ev_S A ty a v0 U H) (hty : ty.length < 100 ∧ ∀ c ∈ ty.toList, c.toNat < 128) (hn9 : n ≤ cap) (hcap : cap ≤ 9000) (hf : js_ft f) : Met l yJ4_append_15ec4 (Cond.code yJ4_append_15ec4 cJ4_append_15ec4 2 (some (.object "java/lang/StringBuilder")) :: am_WS jsW) ({ frames := 7, cells := 1, slots := js_cap (n + ty.length) cap, locals := 300 }) (js_Pc D cB A EV [.ref b, .ref a] (js_b cB b d cap n ml f)) (js_Q D A (fun v w => ∃ d2 cap2 f2, v = some (.ref b) ∧ w = js_b cB b d2 cap2 (n + ty.length) ml f2 ∧ n + ty.length ≤ cap2 ∧ (cap2 ≤ 2 * cap + 2 + (n + ty.length) ∧ cap2 = js_nc (n + ty.length) cap) ∧ js_ft f2 ∧ (∀ j, j < n → f2 j = f j) ∧ ∀ j, j < ty.length → f2 (n + j) = (ev_by ty).getD j 0)) (1) (js_cap (n + ty.length) cap) A := by
  refine Met.ofW (cc := cJ4_append_15ec4) (maxL := 2) (ret := (some (.object "java/lang/StringBuilder"))) (by decide) rfl ?_
  intro p e s m args below meth c s₁ B hml hv
  obtain ⟨rfl, hP, hD, hK, hA0, hE0⟩ := hv
  have hx := B.exec
  have hb := B.bytes
  have hr := B.returns
  have hlocks := B.notSynchronized
  have hts0 := atoms_spec (ws := Cond.code yJ4_append_15ec4 cJ4_append_15ec4 2 (some (.object "java/lang/StringBuilder")) :: am_WS jsW) B.pre
  have hts : ∀ w ∈ am_WS jsW, w.before ([.ref b, .ref a] : List Value).toArray s = true := fun w hw => hts0 w (List.mem_cons_of_mem _ hw)
  have hown : s.vm.findClass RJ4 = some m.cls := findClass_of_methodNamed B.named
  have hS : va_S A s.heap s.heap [] := va_S.rf
  have hl := lv_entry ([.ref b, .ref a]) (n := 2) (Nat.le_of_ble_eq_true rfl)
  rw [lg_entry_eq]
  generalize (lg_sl ([.ref b, .ref a]) ++ List.replicate (2 - (lg_sl ([.ref b, .ref a])).length) Slot.unset).toArray = ls at hl ⊢
  have hl : lv_has ls 2 [(0, .ref b), (1, .ref a)] := hl
  have hE : EV s s.heap := hE0
  have hA := hA0
  refine lv_aload_n hx hb (show decode cJ4_append_15ec4 0 = .ok (.aload_n 0, 1) by decide +kernel) rfl (lv_at hl 0 rfl) ?_
  refine lv_aload_n hx hb (show decode cJ4_append_15ec4 1 = .ok (.aload_n 1, 1) by decide +kernel) rfl (lv_at hl 1 rfl) ?_
  have hgd9 : GoodIn (am_WS jsW) (va_wsSU RJ4 29 yJ5_append_cf1ce (Cond.code yJ5_append_cf1ce cJ5_append_cf1ce 3 (some (.object "java/lang/AbstractStringBuilder")) :: am_WS jsW)) := (am_goodIn hg (fun w hw => by
      unfold va_wsSU at hw
      rcases List.mem_append.mp hw with hw | hw
      · rcases List.mem_cons.mp hw with rfl | hw
        · exact (js_in 53 rfl)
        rcases List.mem_cons.mp hw with rfl | hw
        · exact (js_in 54 rfl)
        rcases List.mem_cons.mp hw with rfl | hw
        · exact (js_in 55 rfl)
        rcases List.mem_cons.mp hw with rfl | hw
        · exact (js_in 56 rfl)
        rcases List.mem_cons.mp hw with rfl | hw
        · exact (js_in 24 rfl)
        cases hw
      · rcases List.mem_cons.mp hw with rfl | hw
        · exact (js_in 57 rfl)
        · exact hw))
  refine js_call (va_runSU (cc := cJ4_append_15ec4) (C := RJ4) (hK.1 0 _ rfl).2 (As := [.ref a]) (b := b) (rest := []) ⟨hx, hb, hml, hown, hts⟩ (jc_appendS5 (b := b) (d := d) (cap := cap) (n := n) (ml := ml) (f := f) hg hm hB hS0 hty hn9 hcap hf) (va_cwSU 1 hts hgd9 rfl rfl rfl (by decide +kernel) ⟨Nat.le_of_ble_eq_true rfl, Nat.le_of_ble_eq_true rfl⟩) ⟨js_fb hm, js_recv hK hP 0 rfl, js_pre hm hP hD hK hA hE⟩ rfl rfl hl.1 rfl (lv_room (Nat.le_of_ble_eq_true rfl)) (show decode cJ4_append_15ec4 2 = .ok (.invokespecial 29, 3) by decide +kernel) ⟨by show 0 + 1 ≤ 1; omega, by show 0 + js_cap (n + ty.length) cap ≤ js_cap (n + ty.length) cap; omega⟩) hS (fun v w H locs qq hP hD hS => ?_)
  obtain ⟨d2, cap2, f2, rfl, rfl, hq⟩ := qq
  show W p l e _ s m _ below meth c H locs _ _ _ (F0 m 5 ls [.ref b])
  have hP : va_P D js_cl (js_b cB b d2 cap2 (n + ty.length) ml f2) H := hP
  have hD : va_D A (js_b cB b d2 cap2 (n + ty.length) ml f2) := hD
  have hE : EV s H := js_E hm hS hE0
  have hA := js_A hS hA0
  refine lv_pop hx hb (show decode cJ4_append_15ec4 5 = .ok (.pop, 1) by decide +kernel) rfl ?_
  refine lv_aload_n hx hb (show decode cJ4_append_15ec4 6 = .ok (.aload_n 0, 1) by decide +kernel) rfl (lv_at hl 0 rfl) ?_
  refine W.widen (by show 0 + 1 ≤ 1; omega) (by show 0 + js_cap (n + ty.length) cap ≤ js_cap (n + ty.length) cap; omega) ?_
  exact W.aret hx hb hr (Or.inl ⟨_, rfl⟩) (Or.inr ⟨_, rfl⟩) (fun t ht _ => ⟨⟨_, js_b cB b d2 cap2 (n + ty.length) ml f2, rfl, ⟨d2, cap2, f2, rfl, rfl, hq⟩, by rw [ht]; exact hP, hD⟩, hS.F ht⟩) hS.2.2 (show decode cJ4_append_15ec4 7 = .ok (.areturn, 1) by decide +kernel) hlocks
