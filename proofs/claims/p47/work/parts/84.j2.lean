/-! THE JDK'S STRINGBUILDER: room -/
set_option maxHeartbeats 1000000 in
theorem jc_newCapacity {l : Launch} {D : va_G} {cB : ClassId} {A : Nat → Prop} {EV : State → Heap → Prop} (hg : ∀ w ∈ am_WS jsW, goodWord w = true) (hm : am_EVm A EV) (hB : ss_B A EV) {b d cap n : Nat} {ml : Int32} {f : Nat → Int32} {q : Nat} (hcq : cap < q) (hq : q ≤ 30000) : Met l yJ5_newCapacity_0f7a4 (Cond.code yJ5_newCapacity_0f7a4 cJ5_newCapacity_0f7a4 6 (some .int) :: am_WS jsW) ({ frames := 2, cells := 0, slots := 0, locals := 80 }) (js_Pc D cB A EV [.ref b, .int (nI q)] (js_b cB b d cap n ml f)) (js_Q D A (fun v w => v = some (.int (nI (js_cap q cap))) ∧ w = js_b cB b d cap n ml f)) (0) (0) A := by
  refine Met.ofW (cc := cJ5_newCapacity_0f7a4) (maxL := 6) (ret := (some .int)) (by decide) rfl ?_
  intro p e s m args below meth c s₁ B hml hv
  obtain ⟨rfl, hP, hD, hK, hA0, hE0⟩ := hv
  have hx := B.exec
  have hb := B.bytes
  have hr := B.returns
  have hlocks := B.notSynchronized
  have hts0 := atoms_spec (ws := Cond.code yJ5_newCapacity_0f7a4 cJ5_newCapacity_0f7a4 6 (some .int) :: am_WS jsW) B.pre
  have hts : ∀ w ∈ am_WS jsW, w.before ([.ref b, .int (nI q)] : List Value).toArray s = true := fun w hw => hts0 w (List.mem_cons_of_mem _ hw)
  have hown : s.vm.findClass RJ5 = some m.cls := findClass_of_methodNamed B.named
  have hS : va_S A s.heap s.heap [] := va_S.rf
  have hl := lv_entry ([.ref b, .int (nI q)]) (n := 6) (Nat.le_of_ble_eq_true rfl)
  rw [lg_entry_eq]
  generalize (lg_sl ([.ref b, .int (nI q)]) ++ List.replicate (6 - (lg_sl ([.ref b, .int (nI q)])).length) Slot.unset).toArray = ls at hl ⊢
  have hl : lv_has ls 6 [(0, .ref b), (1, .int (nI q))] := hl
  have hE : EV s s.heap := hE0
  have hA := hA0
  refine lv_aload_n hx hb (show decode cJ5_newCapacity_0f7a4 0 = .ok (.aload_n 0, 1) by decide +kernel) rfl (lv_at hl 0 rfl) ?_
  refine va_get hx hb hts js_u4 hown hK hP 0 rfl rfl 0 (by decide) (hts _ (js_in 2 rfl)) (fun _ h => h) (v := .ref d) rfl (show decode cJ5_newCapacity_0f7a4 1 = .ok (.getfield 15, 3) by decide +kernel) ?_
  refine va_alen hx hb hK hP 1 0 rfl rfl (v := (nI cap)) rfl (show decode cJ5_newCapacity_0f7a4 4 = .ok (.arraylength, 1) by decide +kernel) ?_
  refine lv_istore_n hx hb (show decode cJ5_newCapacity_0f7a4 5 = .ok (.istore_n 2, 1) by decide +kernel) rfl hl (by decide) rfl (fun ls hl => ?_)
  have hl : lv_has ls 6 [(2, .int (nI cap)), (0, .ref b), (1, .int (nI q))] := hl
  refine lv_iload_n hx hb (show decode cJ5_newCapacity_0f7a4 6 = .ok (.iload_n 1, 1) by decide +kernel) rfl (lv_at hl 2 rfl) ?_
  refine lv_aload_n hx hb (show decode cJ5_newCapacity_0f7a4 7 = .ok (.aload_n 0, 1) by decide +kernel) rfl (lv_at hl 1 rfl) ?_
  refine va_get hx hb hts js_u4 hown hK hP 0 rfl rfl 1 (by decide) (hts _ (js_in 1 rfl)) (fun _ h => h) (v := .int 0) rfl (show decode cJ5_newCapacity_0f7a4 8 = .ok (.getfield 22, 3) by decide +kernel) ?_
  refine lv_ishl hx hb (show decode cJ5_newCapacity_0f7a4 11 = .ok (.ishl, 1) by decide +kernel) ?_
  rw [show ((((nI q) : Int32) <<< ((0 : Int32) &&& 31)) : Int32) = (nI q) from (js_shl0 _)]
  refine lv_istore_n hx hb (show decode cJ5_newCapacity_0f7a4 12 = .ok (.istore_n 3, 1) by decide +kernel) rfl hl (by decide) rfl (fun ls hl => ?_)
  have hl : lv_has ls 6 [(3, .int (nI q)), (2, .int (nI cap)), (0, .ref b), (1, .int (nI q))] := hl
  refine lv_iload_n hx hb (show decode cJ5_newCapacity_0f7a4 13 = .ok (.iload_n 3, 1) by decide +kernel) rfl (lv_at hl 0 rfl) ?_
  refine lv_iload_n hx hb (show decode cJ5_newCapacity_0f7a4 14 = .ok (.iload_n 2, 1) by decide +kernel) rfl (lv_at hl 1 rfl) ?_
  refine lv_isub hx hb (show decode cJ5_newCapacity_0f7a4 15 = .ok (.isub, 1) by decide +kernel) ?_
  rw [show (((nI q) - (nI cap)) : Int32) = (nI (q - cap)) from (js_sub (by omega))]
  refine lv_istore hx hb (show decode cJ5_newCapacity_0f7a4 16 = .ok (.istore 4, 2) by decide +kernel) hl (by decide) rfl (fun ls hl => ?_)
  have hl : lv_has ls 6 [(4, .int (nI (q - cap))), (3, .int (nI q)), (2, .int (nI cap)), (0, .ref b), (1, .int (nI q))] := hl
  refine lv_iload_n hx hb (show decode cJ5_newCapacity_0f7a4 18 = .ok (.iload_n 2, 1) by decide +kernel) rfl (lv_at hl 2 rfl) ?_
  refine lv_iload hx hb (show decode cJ5_newCapacity_0f7a4 19 = .ok (.iload 4, 2) by decide +kernel) (lv_at hl 0 rfl) ?_
  refine lv_iload_n hx hb (show decode cJ5_newCapacity_0f7a4 21 = .ok (.iload_n 2, 1) by decide +kernel) rfl (lv_at hl 2 rfl) ?_
  refine lv_iconst hx hb (v := 2) (show decode cJ5_newCapacity_0f7a4 22 = .ok (.iconst 2, 1) by decide +kernel) (by decide) ?_
  refine lv_aload_n hx hb (show decode cJ5_newCapacity_0f7a4 23 = .ok (.aload_n 0, 1) by decide +kernel) rfl (lv_at hl 3 rfl) ?_
  refine va_get hx hb hts js_u4 hown hK hP 0 rfl rfl 1 (by decide) (hts _ (js_in 1 rfl)) (fun _ h => h) (v := .int 0) rfl (show decode cJ5_newCapacity_0f7a4 24 = .ok (.getfield 22, 3) by decide +kernel) ?_
  refine lv_ishl hx hb (show decode cJ5_newCapacity_0f7a4 27 = .ok (.ishl, 1) by decide +kernel) ?_
  rw [show (((2 : Int32) <<< ((0 : Int32) &&& 31)) : Int32) = 2 from (js_shl0 _)]
  refine lv_iadd hx hb (show decode cJ5_newCapacity_0f7a4 28 = .ok (.iadd, 1) by decide +kernel) ?_
  rw [show (((nI cap) + 2) : Int32) = (nI (cap + 2)) from (nI_add cap 2)]
  refine js_call (va_runS (cc := cJ5_newCapacity_0f7a4) (As := [.int (nI cap), .int (nI (q - cap)), .int (nI (cap + 2))]) (rest := []) ⟨hx, hb, hml, hown, hts⟩ (jc_newLength (ws := js_b cB b d cap n ml f) (o := cap) (g := q - cap) (q := cap + 2) hg hm hB (by omega) (by omega) (by omega)) ⟨callB_of 3 hts (am_goodIn hg (fun w hw => by rcases List.mem_cons.mp hw with rfl | hw; exact js_in 17 rfl; exact hw)) rfl rfl rfl (hts _ (js_in 18 rfl)) (hts (.methodLink RJ5 114 yJ8_newLength_cabcc) (js_in 19 rfl)) (by decide +kernel) ⟨Nat.le_of_ble_eq_true rfl, Nat.le_of_ble_eq_true rfl⟩, (hts _ (js_in 20 rfl))⟩ ⟨js_fb hm, js_pre hm hP hD hK hA hE⟩ rfl rfl hl.1 rfl (lv_room (Nat.le_of_ble_eq_true rfl)) (show decode cJ5_newCapacity_0f7a4 29 = .ok (.invokestatic 114, 3) by decide +kernel) ⟨by show 0 + 0 ≤ 0; omega, by show 0 + 0 ≤ 0; omega⟩) hS (fun v w H locs qq hP hD hS => ?_)
  obtain ⟨rfl, rfl⟩ := qq
  show W p l e _ s m _ below meth c H locs _ _ _ (F0 m 32 ls [.int (nI (js_cap q cap))])
  have hP : va_P D js_cl (js_b cB b d cap n ml f) H := hP
  have hD : va_D A (js_b cB b d cap n ml f) := hD
  have hE : EV s H := js_E hm hS hE0
  have hA := js_A hS hA0
  have hj : 0 < js_cap q cap ∧ js_cap q cap ≤ 65536 := by unfold js_cap; split <;> omega
  refine lv_istore hx hb (show decode cJ5_newCapacity_0f7a4 32 = .ok (.istore 5, 2) by decide +kernel) hl (by decide) rfl (fun ls hl => ?_)
  have hl : lv_has ls 6 [(5, .int (nI (js_cap q cap))), (4, .int (nI (q - cap))), (3, .int (nI q)), (2, .int (nI cap)), (0, .ref b), (1, .int (nI q))] := hl
  refine lv_iload hx hb (show decode cJ5_newCapacity_0f7a4 34 = .ok (.iload 5, 2) by decide +kernel) (lv_at hl 0 rfl) ?_
  refine lv_ldc hx hb hown (hts _ (js_in 21 rfl)) (show decode cJ5_newCapacity_0f7a4 36 = .ok (.ldc 39, 2) by decide +kernel) ?_
  refine lv_icmp_ne hx hb (show decode cJ5_newCapacity_0f7a4 38 = .ok (.if_icmp .ne 13, 3) by decide +kernel) (tgt := 51) (by decide) (fun _ => ?_) (fun h => absurd ((nI_eq (b := 2147483647) (by omega) (by decide)).mp h) (by omega))
  refine lv_iload hx hb (show decode cJ5_newCapacity_0f7a4 51 = .ok (.iload 5, 2) by decide +kernel) (lv_at hl 0 rfl) ?_
  refine lv_aload_n hx hb (show decode cJ5_newCapacity_0f7a4 53 = .ok (.aload_n 0, 1) by decide +kernel) rfl (lv_at hl 4 rfl) ?_
  refine va_get hx hb hts js_u4 hown hK hP 0 rfl rfl 1 (by decide) (hts _ (js_in 1 rfl)) (fun _ h => h) (v := .int 0) rfl (show decode cJ5_newCapacity_0f7a4 54 = .ok (.getfield 22, 3) by decide +kernel) ?_
  refine lv_ishr hx hb (show decode cJ5_newCapacity_0f7a4 57 = .ok (.ishr, 1) by decide +kernel) ?_
  rw [show ((((nI (js_cap q cap)) : Int32) >>> ((0 : Int32) &&& 31)) : Int32) = (nI (js_cap q cap)) from (js_shr0 _)]
  exact W.iret hx hb hr (fun t ht _ => ⟨⟨_, js_b cB b d cap n ml f, rfl, ⟨rfl, rfl⟩, by rw [ht]; exact hP, hD⟩, hS.F ht⟩) hS.2.2 (show decode cJ5_newCapacity_0f7a4 58 = .ok (.ireturn, 1) by decide +kernel) hlocks
set_option maxHeartbeats 1000000 in
theorem jc_ensure {l : Launch} {D : va_G} {cB : ClassId} {A : Nat → Prop} {EV : State → Heap → Prop} (hg : ∀ w ∈ am_WS jsW, goodWord w = true) (hm : am_EVm A EV) (hB : ss_B A EV) {b d cap n : Nat} {ml : Int32} {f : Nat → Int32} {q : Nat} (hq : q ≤ 20000) (hcap : cap ≤ 20000) (hf : js_ft f) : Met l yJ5_ensureCapacityInternal_d00df (Cond.code yJ5_ensureCapacityInternal_d00df cJ5_ensureCapacityInternal_d00df 3 none :: am_WS jsW) ({ frames := 3, cells := 1, slots := js_cap q cap, locals := 120 }) (js_Pc D cB A EV [.ref b, .int (nI q)] (js_b cB b d cap n ml f)) (js_Q D A (fun v w => ∃ d2 cap2 f2, v = none ∧ w = js_b cB b d2 cap2 n ml f2 ∧ q ≤ cap2 ∧ (cap2 ≤ 2 * cap + 2 + q ∧ cap2 = js_nc q cap) ∧ js_ft f2 ∧ ∀ j, j < cap → f2 j = f j)) (1) (js_cap q cap) A := by
  refine Met.ofW (cc := cJ5_ensureCapacityInternal_d00df) (maxL := 3) (ret := none) (by decide) rfl ?_
  intro p e s m args below meth c s₁ B hml hv
  obtain ⟨rfl, hP, hD, hK, hA0, hE0⟩ := hv
  have hx := B.exec
  have hb := B.bytes
  have hr := B.returns
  have hlocks := B.notSynchronized
  have hts0 := atoms_spec (ws := Cond.code yJ5_ensureCapacityInternal_d00df cJ5_ensureCapacityInternal_d00df 3 none :: am_WS jsW) B.pre
  have hts : ∀ w ∈ am_WS jsW, w.before ([.ref b, .int (nI q)] : List Value).toArray s = true := fun w hw => hts0 w (List.mem_cons_of_mem _ hw)
  have hown : s.vm.findClass RJ5 = some m.cls := findClass_of_methodNamed B.named
  have hS : va_S A s.heap s.heap [] := va_S.rf
  have hl := lv_entry ([.ref b, .int (nI q)]) (n := 3) (Nat.le_of_ble_eq_true rfl)
  rw [lg_entry_eq]
  generalize (lg_sl ([.ref b, .int (nI q)]) ++ List.replicate (3 - (lg_sl ([.ref b, .int (nI q)])).length) Slot.unset).toArray = ls at hl ⊢
  have hl : lv_has ls 3 [(0, .ref b), (1, .int (nI q))] := hl
  have hE : EV s s.heap := hE0
  have hA := hA0
  refine lv_aload_n hx hb (show decode cJ5_ensureCapacityInternal_d00df 0 = .ok (.aload_n 0, 1) by decide +kernel) rfl (lv_at hl 0 rfl) ?_
  refine va_get hx hb hts js_u4 hown hK hP 0 rfl rfl 0 (by decide) (hts _ (js_in 2 rfl)) (fun _ h => h) (v := .ref d) rfl (show decode cJ5_ensureCapacityInternal_d00df 1 = .ok (.getfield 15, 3) by decide +kernel) ?_
  refine va_alen hx hb hK hP 1 0 rfl rfl (v := (nI cap)) rfl (show decode cJ5_ensureCapacityInternal_d00df 4 = .ok (.arraylength, 1) by decide +kernel) ?_
  refine lv_aload_n hx hb (show decode cJ5_ensureCapacityInternal_d00df 5 = .ok (.aload_n 0, 1) by decide +kernel) rfl (lv_at hl 0 rfl) ?_
  refine va_get hx hb hts js_u4 hown hK hP 0 rfl rfl 1 (by decide) (hts _ (js_in 1 rfl)) (fun _ h => h) (v := .int 0) rfl (show decode cJ5_ensureCapacityInternal_d00df 6 = .ok (.getfield 22, 3) by decide +kernel) ?_
  refine lv_ishr hx hb (show decode cJ5_ensureCapacityInternal_d00df 9 = .ok (.ishr, 1) by decide +kernel) ?_
  rw [show ((((nI cap) : Int32) >>> ((0 : Int32) &&& 31)) : Int32) = (nI cap) from (js_shr0 _)]
  refine lv_istore_n hx hb (show decode cJ5_ensureCapacityInternal_d00df 10 = .ok (.istore_n 2, 1) by decide +kernel) rfl hl (by decide) rfl (fun ls hl => ?_)
  have hl : lv_has ls 3 [(2, .int (nI cap)), (0, .ref b), (1, .int (nI q))] := hl
  refine lv_iload_n hx hb (show decode cJ5_ensureCapacityInternal_d00df 11 = .ok (.iload_n 1, 1) by decide +kernel) rfl (lv_at hl 2 rfl) ?_
  refine lv_iload_n hx hb (show decode cJ5_ensureCapacityInternal_d00df 12 = .ok (.iload_n 2, 1) by decide +kernel) rfl (lv_at hl 0 rfl) ?_
  refine lv_isub hx hb (show decode cJ5_ensureCapacityInternal_d00df 13 = .ok (.isub, 1) by decide +kernel) ?_
  refine lv_if_le hx hb (show decode cJ5_ensureCapacityInternal_d00df 14 = .ok (.ifCond .le 24, 3) by decide +kernel) (tgt := 38) (by decide) (fun h1 => ?_) (fun h1 => ?_)
  · have h1 := (js_le (by omega) (by omega)).mp h1
    refine W.widen (by show 0 ≤ 1; omega) (by show 0 ≤ js_cap q cap; omega) ?_
    exact W.vret hx hb hr (fun t ht _ => ⟨⟨_, js_b cB b d cap n ml f, rfl, ⟨d, cap, f, rfl, rfl, by omega, ⟨by omega, (if_pos h1).symm⟩, hf, fun _ _ => rfl⟩, by rw [ht]; exact hP, hD⟩, hS.F ht⟩) hS.2.2 (show decode cJ5_ensureCapacityInternal_d00df 38 = .ok (.return_, 1) by decide +kernel) hlocks
  · have h1 : cap < q := Nat.not_le.mp (fun w => h1 ((js_le (by omega) (by omega)).mpr w))
    have hj : q ≤ js_cap q cap ∧ js_cap q cap ≤ 2 * cap + 2 + q := by unfold js_cap; split <;> omega
    refine lv_aload_n hx hb (show decode cJ5_ensureCapacityInternal_d00df 17 = .ok (.aload_n 0, 1) by decide +kernel) rfl (lv_at hl 1 rfl) ?_
    refine lv_aload_n hx hb (show decode cJ5_ensureCapacityInternal_d00df 18 = .ok (.aload_n 0, 1) by decide +kernel) rfl (lv_at hl 1 rfl) ?_
    refine va_get hx hb hts js_u4 hown hK hP 0 rfl rfl 0 (by decide) (hts _ (js_in 2 rfl)) (fun _ h => h) (v := .ref d) rfl (show decode cJ5_ensureCapacityInternal_d00df 19 = .ok (.getfield 15, 3) by decide +kernel) ?_
    refine lv_aload_n hx hb (show decode cJ5_ensureCapacityInternal_d00df 22 = .ok (.aload_n 0, 1) by decide +kernel) rfl (lv_at hl 1 rfl) ?_
    refine lv_iload_n hx hb (show decode cJ5_ensureCapacityInternal_d00df 23 = .ok (.iload_n 1, 1) by decide +kernel) rfl (lv_at hl 2 rfl) ?_
    refine js_call (va_runV (cc := cJ5_ensureCapacityInternal_d00df) (C := RJ4) (As := [.int (nI q)]) (b := b) (rest := [.ref d, .ref b]) ⟨hx, hb, hml, hown, hts⟩ (jc_newCapacity (b := b) (d := d) (cap := cap) (n := n) (ml := ml) (f := f) (q := q) hg hm hB h1 (by omega)) ⟨callB_of 1 hts (am_goodIn hg (fun w hw => by rcases List.mem_cons.mp hw with rfl | hw; exact js_in 23 rfl; exact hw)) rfl rfl rfl (hts _ (js_in 24 rfl)) (hts (.methodLink RJ5 104 yJ5_newCapacity_0f7a4) (js_in 25 rfl)) (by decide +kernel) ⟨Nat.le_of_ble_eq_true rfl, Nat.le_of_ble_eq_true rfl⟩, (hts _ (js_in 26 rfl)), (hts _ (js_in 22 rfl))⟩ ⟨js_fb hm, js_recv hK hP 0 rfl, js_pre hm hP hD hK hA hE⟩ rfl rfl hl.1 rfl (lv_room (Nat.le_of_ble_eq_true rfl)) (show decode cJ5_ensureCapacityInternal_d00df 24 = .ok (.invokevirtual 104, 3) by decide +kernel) ⟨by show 0 + 0 ≤ 1; omega, by show 0 + 0 ≤ js_cap q cap; omega⟩) hS (fun v w H locs qq hP hD hS => ?_)
    obtain ⟨rfl, rfl⟩ := qq
    show W p l e _ s m _ below meth c H locs _ _ _ (F0 m 27 ls [.int (nI (js_cap q cap)), .ref d, .ref b])
    have hP : va_P D js_cl (js_b cB b d cap n ml f) H := hP
    have hD : va_D A (js_b cB b d cap n ml f) := hD
    have hE : EV s H := js_E hm hS hE0
    have hA := js_A hS hA0
    refine lv_aload_n hx hb (show decode cJ5_ensureCapacityInternal_d00df 27 = .ok (.aload_n 0, 1) by decide +kernel) rfl (lv_at hl 1 rfl) ?_
    refine va_get hx hb hts js_u4 hown hK hP 0 rfl rfl 1 (by decide) (hts _ (js_in 1 rfl)) (fun _ h => h) (v := .int 0) rfl (show decode cJ5_ensureCapacityInternal_d00df 28 = .ok (.getfield 22, 3) by decide +kernel) ?_
    refine lv_ishl hx hb (show decode cJ5_ensureCapacityInternal_d00df 31 = .ok (.ishl, 1) by decide +kernel) ?_
    rw [show ((((nI (js_cap q cap)) : Int32) <<< ((0 : Int32) &&& 31)) : Int32) = (nI (js_cap q cap)) from (js_shl0 _)]
    refine js_call (va_runS (cc := cJ5_ensureCapacityInternal_d00df) (As := [.ref d, .int (nI (js_cap q cap))]) (rest := [.ref b]) ⟨hx, hb, hml, hown, hts⟩ (jc_copyOf (b := b) (d := d) (cap := cap) (n := n) (ml := ml) (f := f) (q := js_cap q cap) hg hm hB (by omega) (by omega) hf) ⟨callB_of 2 hts (am_goodIn hg (fun w hw => by rcases List.mem_cons.mp hw with rfl | hw; exact js_in 27 rfl; exact hw)) rfl rfl rfl (hts _ (js_in 28 rfl)) (hts (.methodLink RJ5 108 yJ7_copyOf_9075b) (js_in 29 rfl)) (by decide +kernel) ⟨Nat.le_of_ble_eq_true rfl, Nat.le_of_ble_eq_true rfl⟩, (hts _ (js_in 30 rfl))⟩ ⟨js_fb hm, js_pre hm hP hD hK hA hE⟩ rfl rfl hl.1 rfl (lv_room (Nat.le_of_ble_eq_true rfl)) (show decode cJ5_ensureCapacityInternal_d00df 32 = .ok (.invokestatic 108, 3) by decide +kernel) ⟨by show 0 + 0 + 1 ≤ 1; omega, by show 0 + 0 + js_cap q cap ≤ js_cap q cap; omega⟩) hS (fun v w H locs qq hP hD hS => ?_)
    obtain ⟨x, rfl, rfl⟩ := qq
    show W p l e _ s m _ below meth c H locs _ _ _ (F0 m 35 ls [.ref x, .ref b])
    have hP : va_P D js_cl (js_b cB b d cap n ml f ++ [(x, .inl (cB, js_cap q cap, .inl (va_cpy f (fun _ => 0) 0 0 cap)))]) H := hP
    have hD : va_D A (js_b cB b d cap n ml f ++ [(x, .inl (cB, js_cap q cap, .inl (va_cpy f (fun _ => 0) 0 0 cap)))]) := hD
    have hE : EV s H := js_E hm hS hE0
    have hA := js_A hS hA0
    refine va_put hx hb hts js_u4 tyJ4 tyJ4_ok nmJ4 hown hK hP hD hS 0 rfl rfl 0 (by decide) (hts _ (js_in 2 rfl)) (fun _ h => h) rfl (ty := tyJ4 0) (by decide) rfl rfl (Nat.le_of_ble_eq_true rfl) (show decode cJ5_ensureCapacityInternal_d00df 35 = .ok (.putfield 15, 3) by decide +kernel) (fun H locs hP hD hS => ?_)
    have hP : va_P D js_cl ([(b, .inr (0, [Value.ref x, .int 0, .int ml, .int (Int32.ofNat n)])), (d, .inl (cB, cap, .inl f)), (x, .inl (cB, js_cap q cap, .inl (va_cpy f (fun _ => 0) 0 0 cap)))]) H := hP
    have hD : va_D A ([(b, .inr (0, [Value.ref x, .int 0, .int ml, .int (Int32.ofNat n)])), (d, .inl (cB, cap, .inl f)), (x, .inl (cB, js_cap q cap, .inl (va_cpy f (fun _ => 0) 0 0 cap)))]) := hD
    have hE : EV s H := js_E hm hS hE0
    have hA := js_A hS hA0
    have hP := hP.sub (ws' := js_b cB b x (js_cap q cap) n ml (va_cpy f (fun _ => 0) 0 0 cap)) [0, 2] rfl
    have hD := hD.sub (ws' := js_b cB b x (js_cap q cap) n ml (va_cpy f (fun _ => 0) 0 0 cap)) [0, 2] (by decide) rfl
    refine W.widen (by show 0 + 0 + 1 ≤ 1; omega) (by show 0 + 0 + js_cap q cap ≤ js_cap q cap; omega) ?_
    exact W.vret hx hb hr (fun t ht _ => ⟨⟨_, js_b cB b x (js_cap q cap) n ml (va_cpy f (fun _ => 0) 0 0 cap), rfl, ⟨x, js_cap q cap, _, rfl, rfl, hj.1, ⟨hj.2, (if_neg (by omega)).symm⟩, js_ftc hf js_ft0, fun j hj9 => by unfold va_cpy; rw [if_pos (by omega)]; congr 1; omega⟩, by rw [ht]; exact hP, hD⟩, hS.F ht⟩) hS.2.2 (show decode cJ5_ensureCapacityInternal_d00df 38 = .ok (.return_, 1) by decide +kernel) hlocks
