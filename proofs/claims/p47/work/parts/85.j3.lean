/-! THE JDK'S STRINGBUILDER: a String put in -/
section JST
variable {p : Program} {l : Launch} {e : Env} {R : Room} {s : State} {m : MethodId} {args : Array Value} {below : List Frame} {meth : Method} {c : Code} {H : Heap} {locs : List Loc} {cells slots : Nat} {Q : State → Prop}
variable {pc : Nat} {ls : Array Slot} {rest : List Value} {D : va_G} {cl : List vw_C} {A : Nat → Prop} {a : Nat} {tys : List (ClassId × FieldType)} {ws : va_W}
/-- bytes of a row outside, copied into a row of the world -/
theorem js_copyT {cc : ByteArray} (hexec : p.tables.exec = Jvm.exec) (hb : c.code = cc) (hml : c.maxLocals = ls.size) {own : String} {index : Nat} (hown : s.vm.findClass own = some m.cls) (hlink : (Cond.methodLink own index arraycopyName).before args s = true) (hnat : (Cond.native arraycopyName).before args s = true) (hstat : (Cond.static arraycopyName).before args s = true) (hini : (Cond.initialized "java/lang/System").before args s = true)
    (hK : va_K D cl tys s) (hP : va_P D cl ws H) (hD : va_D A ws) (hS : va_S A s.heap H locs) {b0 n0 : Nat} {f : Nat → Int32} (hT0 : va_T .byte b0 n0 (fun j => .int (f j)) A s s.heap) (q1 t1 : Nat) {c1 : ClassId} {n1 : Nat} {g : Nat → Int32} (ha1 : ws[q1]? = some (a, .inl (c1, n1, .inl g))) (ht1 : tys[t1]? = some (c1, .byte)) (hfit : ∀ i, i < n0 → fits .byte (.int (f i)) = true)
    {sp dp n : Int32} (h1 : ¬ sp < 0) (h2 : ¬ dp < 0) (h3 : ¬ n < 0) (h4 : sp.toNatClampNeg + n.toNatClampNeg ≤ n0) (h5 : dp.toNatClampNeg + n.toNatClampNeg ≤ n1)
    (hframes : 1 ≤ R.frames) (hlocals : (rest.map fun v => v.category).sum + (nativeFrameWords "java/lang/System" "arraycopy" 5 + 11) ≤ R.locals) (hdg : decode cc pc = .ok (.invokestatic index, 3))
    (kk : ∀ (H1 : Heap) (locs1 : List Loc), va_P D cl (ws.set q1 (a, .inl (c1, n1, .inl (va_cpy f g sp.toNatClampNeg dp.toNatClampNeg n.toNatClampNeg)))) H1 → va_D A (ws.set q1 (a, .inl (c1, n1, .inl (va_cpy f g sp.toNatClampNeg dp.toNatClampNeg n.toNatClampNeg)))) → va_S A s.heap H1 locs1 → W p l e R s m args below meth c H1 locs1 cells slots Q (F0 m (pc + 3) ls rest)) : W p l e R s m args below meth c H locs cells slots Q (F0 m pc ls (.int n :: .int dp :: .ref a :: .int sp :: .ref b0 :: rest)) := by
  have nn : ∀ z : Int32, ¬ z < 0 → z.toInt = (z.toNatClampNeg : Int) := by
    intro z hz
    have hz0 : (0 : Int) ≤ z.toInt := by
      have := Int32.not_lt.mp hz
      simpa using Int32.le_iff_toInt_le.mp this
    show z.toInt = ((z.toInt.toNat : Nat) : Int)
    omega
  intro T hT X
  obtain ⟨scr, hs1, hs2, hs3, hs4, hs4b, hs5, hbA⟩ := hT0
  have hbl : b0 < s.heap.size := (Array.getElem?_eq_some_iff.mp hs1).1
  have hc0 : H[b0]? = some scr := by rw [hS.2.1 b0 hbl hbA]; exact hs1
  have hc1 : H[a]? = some (vp_cell c1 (n1, .inl g)) := hP q1 _ ha1
  obtain ⟨hs6, k0, hk0, cm0, hkk0⟩ := hs2
  obtain ⟨-, k1, hk1, cm1, hkk1⟩ := (hK.2 t1 _ ht1).1 n1 (fun j => .int (g j))
  obtain ⟨vm', X', step⟩ := X.arraycopy hexec hown hlink hnat hstat hini (src := b0) (dst := a) (cs := scr) (cd := vp_cell c1 (n1, .inl g)) (srcPos := sp) (destPos := dp) (n := n) (by rw [hT]; exact hc0) (by rw [hT]; exact hc1)
    hs6 (fun _ h => by cases h) hs3 (fun h => by cases h) hk0 hk1 hkk0 hkk1 (by simp [refKind]) h1 h2 h3
    (by rw [nn sp h1, nn n h3]; omega)
    (by rw [nn dp h2, nn n h3]; show ¬ _ > ((arrV c1 n1 (fun j => .int (g j))).slots.size : Int); rw [arrV_size]; omega)
    (fun vm₁ _ i hi => by
      have e : scr.slots.getD (sp.toNatClampNeg + i) .null = .int (f (sp.toNatClampNeg + i)) := by
        rw [Array.getD_eq_getD_getElem?, hs5 _ (by omega)]
        rfl
      refine ⟨?_, ?_⟩
      · rw [e]
        exact hfit _ (by omega)
      · rw [e]
        exact trivial)
    (g := F0 m pc ls (.int n :: .int dp :: .ref a :: .int sp :: .ref b0 :: rest)) rfl (by rw [hml]) (rest := rest) rfl (by rw [hb]; exact hdg) hframes (by show 2 * 0 + _ + _ ≤ _; omega)
  have e1 : copied scr (vp_cell c1 (n1, .inl g)) sp dp n = vp_cell c1 (n1, .inl (va_cpy f g sp.toNatClampNeg dp.toNatClampNeg n.toNatClampNeg)) := va_copiedX (fun z => .int z) scr c1 f g hs5 h4
  rw [e1] at X' step
  generalize hcell : vp_cell c1 (n1, .inl (va_cpy f g sp.toNatClampNeg dp.toNatClampNeg n.toNatClampNeg)) = cc9 at X' step
  have hl : a < H.size := (Array.getElem?_eq_some_iff.mp hc1).1
  have hheap : ((T.setVm vm').setCell a cc9).heap = H.setIfInBounds a cc9 := by rw [← hT]; rfl
  have oq : ∀ q : Nat, q ≠ a → (H.setIfInBounds a cc9)[q]? = H[q]? := fun q hq => by simp [Array.getElem?_setIfInBounds, Ne.symm hq]
  obtain ⟨t, a1, b1⟩ := kk _ _ (hP.set hD ha1 (show (H.setIfInBounds a cc9)[a]? = some _ by rw [← hcell]; simp [Array.getElem?_setIfInBounds, hl]) oq) (hD.set ha1) ⟨by simp; exact hS.1, fun q g1 g2 => by
      rw [oq q (fun e => g2 (by rw [e]; exact hD.2 q1 _ ha1))]
      exact hS.2.1 q g1 g2, fun q hq => by
      rcases List.mem_append.mp hq with h | h
      · exact hS.2.2 q h
      · obtain ⟨z, -, hz⟩ := List.mem_map.mp h
        rw [← hz]
        exact hD.2 q1 _ ha1⟩ _ hheap X'
  exact ⟨t, step t a1, b1⟩
end JST
/-- a String's bytes fit, are its signs -/
theorem ev_byf {ty : String} (h : ∀ c ∈ ty.toList, c.toNat < 128) (j : Nat) : fits .byte (.int ((ev_by ty).getD j 0)) = true := by
  have k : ∀ n, n < 128 → fits .byte (.int (Int32.ofNat n)) = true := by decide +kernel
  unfold ev_by
  rw [List.getD_eq_getElem?_getD, List.getElem?_map]
  cases hq : ty.toList[j]? with
  | none => rfl
  | some c => exact k _ (h c (List.mem_of_getElem? hq))
set_option maxHeartbeats 1000000 in
theorem jc_inflateIf {l : Launch} {D : va_G} {cB : ClassId} {A : Nat → Prop} {EV : State → Heap → Prop} (hg : ∀ w ∈ am_WS jsW, goodWord w = true) (hm : am_EVm A EV) (hB : ss_B A EV) {b d cap n : Nat} {ml : Int32} {f : Nat → Int32} {ty : String} {a v0 : Nat} (hS0 : ∀ (U : State) (H : Heap), EV U H → ev_S A ty a v0 U H) : Met l yJ5_inflateIfNeededFor_a7421 (Cond.code yJ5_inflateIfNeededFor_a7421 cJ5_inflateIfNeededFor_a7421 2 none :: am_WS jsW) ({ frames := 1, cells := 0, slots := 0, locals := 40 }) (js_Pc D cB A EV [.ref b, .ref a] (js_b cB b d cap n ml f)) (js_Q D A (fun v w => v = none ∧ w = js_b cB b d cap n ml f)) (0) (0) A := by
  refine Met.ofW (cc := cJ5_inflateIfNeededFor_a7421) (maxL := 2) (ret := none) (by decide) rfl ?_
  intro p e s m args below meth c s₁ B hml hv
  obtain ⟨rfl, hP, hD, hK, hA0, hE0⟩ := hv
  have hx := B.exec
  have hb := B.bytes
  have hr := B.returns
  have hlocks := B.notSynchronized
  have hts0 := atoms_spec (ws := Cond.code yJ5_inflateIfNeededFor_a7421 cJ5_inflateIfNeededFor_a7421 2 none :: am_WS jsW) B.pre
  have hts : ∀ w ∈ am_WS jsW, w.before ([.ref b, .ref a] : List Value).toArray s = true := fun w hw => hts0 w (List.mem_cons_of_mem _ hw)
  have hown : s.vm.findClass RJ5 = some m.cls := findClass_of_methodNamed B.named
  have hS : va_S A s.heap s.heap [] := va_S.rf
  have hl := lv_entry ([.ref b, .ref a]) (n := 2) (Nat.le_of_ble_eq_true rfl)
  rw [lg_entry_eq]
  generalize (lg_sl ([.ref b, .ref a]) ++ List.replicate (2 - (lg_sl ([.ref b, .ref a])).length) Slot.unset).toArray = ls at hl ⊢
  have hl : lv_has ls 2 [(0, .ref b), (1, .ref a)] := hl
  have hE : EV s s.heap := hE0
  have hA := hA0
  refine va_gets hx hb (hB.1 _ _ hE0) hS hown (hts _ (js_in 0 rfl)) (fun _ h => h) (show decode cJ5_inflateIfNeededFor_a7421 0 = .ok (.getstatic 18, 3) by decide +kernel) ?_
  refine lv_if_eq hx hb (show decode cJ5_inflateIfNeededFor_a7421 3 = .ok (.ifCond .eq 18, 3) by decide +kernel) (tgt := 21) (by decide) (fun h => absurd h (by decide)) (fun _ => ?_)
  refine lv_aload_n hx hb (show decode cJ5_inflateIfNeededFor_a7421 6 = .ok (.aload_n 0, 1) by decide +kernel) rfl (lv_at hl 0 rfl) ?_
  refine va_get hx hb hts js_u4 hown hK hP 0 rfl rfl 1 (by decide) (hts _ (js_in 1 rfl)) (fun _ h => h) (v := .int 0) rfl (show decode cJ5_inflateIfNeededFor_a7421 7 = .ok (.getfield 22, 3) by decide +kernel) ?_
  refine lv_aload_n hx hb (show decode cJ5_inflateIfNeededFor_a7421 10 = .ok (.aload_n 1, 1) by decide +kernel) rfl (lv_at hl 1 rfl) ?_
  refine ss_call (va_runV (cc := cJ5_inflateIfNeededFor_a7421) (C := RJ0) (As := []) (b := a) (rest := [.int 0]) ⟨hx, hb, hml, hown, hts⟩ (ss_c5 hg hm hB (fun U H h => (hS0 U H h).2.1)) ⟨callB_of 0 hts (am_goodIn hg (fun w hw => by rcases List.mem_cons.mp hw with rfl | hw; exact ss_in 5 rfl; exact hw)) rfl rfl rfl (hts _ (ss_in 8 rfl)) (hts (.methodLink RJ5 40 yJ0_coder_7d493) (js_in 31 rfl)) (by decide +kernel) ⟨Nat.le_of_ble_eq_true rfl, Nat.le_of_ble_eq_true rfl⟩, hts _ (ss_in 3 rfl), hts _ (ss_in 4 rfl)⟩ ⟨ss_fb hm, ss_recv hS0 hE, ss_pre hm hE⟩ rfl rfl hl.1 rfl (lv_room (Nat.le_of_ble_eq_true rfl)) (show decode cJ5_inflateIfNeededFor_a7421 11 = .ok (.invokevirtual 40, 3) by decide +kernel) ⟨by show 0 + 0 ≤ 0; omega, by show 0 + 0 ≤ 0; omega⟩) ?_
  show W p l e _ s m _ below meth c _ _ _ _ _ (F0 m 14 ls [.int 0, .int 0])
  refine lv_icmp_eq hx hb (show decode cJ5_inflateIfNeededFor_a7421 14 = .ok (.if_icmp .eq 7, 3) by decide +kernel) (tgt := 21) (by decide) (fun _ => ?_) (fun h => absurd rfl h)
  exact W.vret hx hb hr (fun t ht _ => ⟨⟨_, js_b cB b d cap n ml f, rfl, ⟨rfl, rfl⟩, by rw [ht]; exact hP, hD⟩, hS.F ht⟩) hS.2.2 (show decode cJ5_inflateIfNeededFor_a7421 21 = .ok (.return_, 1) by decide +kernel) hlocks
set_option maxHeartbeats 1000000 in
theorem jc_getBytes {l : Launch} {D : va_G} {cB : ClassId} {A : Nat → Prop} {EV : State → Heap → Prop} (hg : ∀ w ∈ am_WS jsW, goodWord w = true) (hm : am_EVm A EV) (hB : ss_B A EV) {b d cap n : Nat} {ml : Int32} {f : Nat → Int32} {ty : String} {a v0 : Nat} (hS0 : ∀ (U : State) (H : Heap), EV U H → ev_S A ty a v0 U H) (hty : ∀ c ∈ ty.toList, c.toNat < 128) (hr9 : n + ty.length ≤ cap) (hcap : cap ≤ 65536) : Met l yJ0_getBytes_840e7 (Cond.code yJ0_getBytes_840e7 cJ0_getBytes_840e7 4 none :: am_WS jsW) ({ frames := 1, cells := 0, slots := 0, locals := 60 }) (js_Pc D cB A EV [.ref a, .ref d, .int (nI n), .int 0] (js_b cB b d cap n ml f)) (js_Q D A (fun v w => v = none ∧ w = js_b cB b d cap n ml (va_cpy (fun j => (ev_by ty).getD j 0) f 0 n ty.length))) (0) (0) A := by
  refine Met.ofW (cc := cJ0_getBytes_840e7) (maxL := 4) (ret := none) (by decide) rfl ?_
  intro p e s m args below meth c s₁ B hml hv
  obtain ⟨rfl, hP, hD, hK, hA0, hE0⟩ := hv
  have hx := B.exec
  have hb := B.bytes
  have hr := B.returns
  have hlocks := B.notSynchronized
  have hts0 := atoms_spec (ws := Cond.code yJ0_getBytes_840e7 cJ0_getBytes_840e7 4 none :: am_WS jsW) B.pre
  have hts : ∀ w ∈ am_WS jsW, w.before ([.ref a, .ref d, .int (nI n), .int 0] : List Value).toArray s = true := fun w hw => hts0 w (List.mem_cons_of_mem _ hw)
  have hown : s.vm.findClass RJ0 = some m.cls := findClass_of_methodNamed B.named
  have hS : va_S A s.heap s.heap [] := va_S.rf
  have hl := lv_entry ([.ref a, .ref d, .int (nI n), .int 0]) (n := 4) (Nat.le_of_ble_eq_true rfl)
  rw [lg_entry_eq]
  generalize (lg_sl ([.ref a, .ref d, .int (nI n), .int 0]) ++ List.replicate (4 - (lg_sl ([.ref a, .ref d, .int (nI n), .int 0])).length) Slot.unset).toArray = ls at hl ⊢
  have hl : lv_has ls 4 [(0, .ref a), (1, .ref d), (2, .int (nI n)), (3, .int 0)] := hl
  have hE : EV s s.heap := hE0
  have hA := hA0
  refine lv_aload_n hx hb (show decode cJ0_getBytes_840e7 0 = .ok (.aload_n 0, 1) by decide +kernel) rfl (lv_at hl 0 rfl) ?_
  refine ss_call (va_runV (cc := cJ0_getBytes_840e7) (C := RJ0) (As := []) (b := a) (rest := []) ⟨hx, hb, hml, hown, hts⟩ (ss_c5 hg hm hB (fun U H h => (hS0 U H h).2.1)) ⟨callB_of 0 hts (am_goodIn hg (fun w hw => by rcases List.mem_cons.mp hw with rfl | hw; exact ss_in 5 rfl; exact hw)) rfl rfl rfl (hts _ (ss_in 8 rfl)) (hts (.methodLink RJ0 335 yJ0_coder_7d493) (js_in 32 rfl)) (by decide +kernel) ⟨Nat.le_of_ble_eq_true rfl, Nat.le_of_ble_eq_true rfl⟩, hts _ (ss_in 3 rfl), hts _ (ss_in 4 rfl)⟩ ⟨ss_fb hm, ss_recv hS0 hE, ss_pre hm hE⟩ rfl rfl hl.1 rfl (lv_room (Nat.le_of_ble_eq_true rfl)) (show decode cJ0_getBytes_840e7 1 = .ok (.invokevirtual 335, 3) by decide +kernel) ⟨by show 0 + 0 ≤ 0; omega, by show 0 + 0 ≤ 0; omega⟩) ?_
  show W p l e _ s m _ below meth c _ _ _ _ _ (F0 m 4 ls [.int 0])
  refine lv_iload_n hx hb (show decode cJ0_getBytes_840e7 4 = .ok (.iload_n 3, 1) by decide +kernel) rfl (lv_at hl 3 rfl) ?_
  refine lv_icmp_ne hx hb (show decode cJ0_getBytes_840e7 5 = .ok (.if_icmp .ne 23, 3) by decide +kernel) (tgt := 28) (by decide) (fun h => absurd h (fun h => h rfl)) (fun _ => ?_)
  obtain ⟨-, -, hV, hT⟩ := hS0 _ _ hE0
  refine lv_aload_n hx hb (show decode cJ0_getBytes_840e7 8 = .ok (.aload_n 0, 1) by decide +kernel) rfl (lv_at hl 0 rfl) ?_
  refine vk_getf hx hb hV hS hown (hts _ (js_in 33 rfl)) (fun _ h => h) (show decode cJ0_getBytes_840e7 9 = .ok (.getfield 9, 3) by decide +kernel) ?_
  refine lv_iconst hx hb (v := 0) (show decode cJ0_getBytes_840e7 12 = .ok (.iconst 0, 1) by decide +kernel) (by decide) ?_
  refine lv_aload_n hx hb (show decode cJ0_getBytes_840e7 13 = .ok (.aload_n 1, 1) by decide +kernel) rfl (lv_at hl 1 rfl) ?_
  refine lv_iload_n hx hb (show decode cJ0_getBytes_840e7 14 = .ok (.iload_n 2, 1) by decide +kernel) rfl (lv_at hl 2 rfl) ?_
  refine lv_iload_n hx hb (show decode cJ0_getBytes_840e7 15 = .ok (.iload_n 3, 1) by decide +kernel) rfl (lv_at hl 3 rfl) ?_
  refine lv_ishl hx hb (show decode cJ0_getBytes_840e7 16 = .ok (.ishl, 1) by decide +kernel) ?_
  rw [show ((((nI n) : Int32) <<< ((0 : Int32) &&& 31)) : Int32) = (nI n) from (js_shl0 _)]
  refine lv_aload_n hx hb (show decode cJ0_getBytes_840e7 17 = .ok (.aload_n 0, 1) by decide +kernel) rfl (lv_at hl 0 rfl) ?_
  refine vk_getf hx hb hV hS hown (hts _ (js_in 33 rfl)) (fun _ h => h) (show decode cJ0_getBytes_840e7 18 = .ok (.getfield 9, 3) by decide +kernel) ?_
  refine va_tlen hx hb hT hS (v := nI ty.length) rfl (show decode cJ0_getBytes_840e7 21 = .ok (.arraylength, 1) by decide +kernel) ?_
  refine js_copyT hx hb (hml.trans hl.1.symm) hown (hts _ (js_in 34 rfl)) (hts _ (js_in 14 rfl)) (hts _ (js_in 15 rfl)) (hts _ (js_in 16 rfl)) hK hP hD hS hT 1 0 rfl rfl (fun i _ => ev_byf hty i) (by decide) (nI_pos (by omega)) (nI_pos (by omega)) (by rw [nI_clamp (n := ty.length) (by omega)]; show 0 + _ ≤ _; omega) (by rw [nI_clamp (n := ty.length) (by omega), nI_clamp (n := n) (by omega)]; exact hr9) (Nat.le_of_ble_eq_true rfl) (Nat.le_of_ble_eq_true rfl) (show decode cJ0_getBytes_840e7 22 = .ok (.invokestatic 212, 3) by decide +kernel) (fun H locs hP hD hS => ?_)
  rw [nI_clamp (n := ty.length) (by omega), nI_clamp (n := n) (by omega)] at hP hD
  have hP : va_P D js_cl (js_b cB b d cap n ml (va_cpy (fun j => (ev_by ty).getD j 0) f 0 n ty.length)) H := hP
  have hD : va_D A (js_b cB b d cap n ml (va_cpy (fun j => (ev_by ty).getD j 0) f 0 n ty.length)) := hD
  have hE : EV s H := js_E hm hS hE0
  have hA := js_A hS hA0
  refine lv_goto hx hb (show decode cJ0_getBytes_840e7 25 = .ok (.goto 18, 3) by decide +kernel) (tgt := 43) (by decide) ?_
  exact W.vret hx hb hr (fun t ht _ => ⟨⟨_, js_b cB b d cap n ml (va_cpy (fun j => (ev_by ty).getD j 0) f 0 n ty.length), rfl, ⟨rfl, rfl⟩, by rw [ht]; exact hP, hD⟩, hS.F ht⟩) hS.2.2 (show decode cJ0_getBytes_840e7 43 = .ok (.return_, 1) by decide +kernel) hlocks
