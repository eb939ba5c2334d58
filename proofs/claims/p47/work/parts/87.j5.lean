/-! THE JDK'S STRINGBUILDER: numbers -/
set_option maxHeartbeats 1000000 in
theorem jc_stringSize {l : Launch} {D : va_G} {cB : ClassId} {A : Nat → Prop} {EV : State → Heap → Prop} (hg : ∀ w ∈ am_WS jsW, goodWord w = true) (hm : am_EVm A EV) (hB : ss_B A EV) {ws : va_W} {v0 : Nat} (hv : v0 < 100) : Met l yJ6_stringSize_0f7a4 (Cond.code yJ6_stringSize_0f7a4 cJ6_stringSize_0f7a4 4 (some .int) :: am_WS jsW) ({ frames := 0, cells := 0, slots := 0, locals := 0 }) (js_Pc D cB A EV [.int (nI v0)] (ws)) (js_Q D A (fun v w => v = some (.int (nI (js_dg v0))) ∧ w = ws)) (0) (0) A := by
  refine Met.ofW (cc := cJ6_stringSize_0f7a4) (maxL := 4) (ret := (some .int)) (by decide) rfl ?_
  intro p e s m args below meth c s₁ B hml hv
  obtain ⟨rfl, hP, hD, hK, hA0, hE0⟩ := hv
  have hx := B.exec
  have hb := B.bytes
  have hr := B.returns
  have hlocks := B.notSynchronized
  have hts0 := atoms_spec (ws := Cond.code yJ6_stringSize_0f7a4 cJ6_stringSize_0f7a4 4 (some .int) :: am_WS jsW) B.pre
  have hts : ∀ w ∈ am_WS jsW, w.before ([.int (nI v0)] : List Value).toArray s = true := fun w hw => hts0 w (List.mem_cons_of_mem _ hw)
  have hown : s.vm.findClass RJ6 = some m.cls := findClass_of_methodNamed B.named
  have hS : va_S A s.heap s.heap [] := va_S.rf
  have hl := lv_entry ([.int (nI v0)]) (n := 4) (Nat.le_of_ble_eq_true rfl)
  rw [lg_entry_eq]
  generalize (lg_sl ([.int (nI v0)]) ++ List.replicate (4 - (lg_sl ([.int (nI v0)])).length) Slot.unset).toArray = ls at hl ⊢
  have hl : lv_has ls 4 [(0, .int (nI v0))] := hl
  have hE : EV s s.heap := hE0
  have hA := hA0
  refine lv_iconst hx hb (v := 1) (show decode cJ6_stringSize_0f7a4 0 = .ok (.iconst 1, 1) by decide +kernel) (by decide) ?_
  refine lv_istore_n hx hb (show decode cJ6_stringSize_0f7a4 1 = .ok (.istore_n 1, 1) by decide +kernel) rfl hl (by decide) rfl (fun ls hl => ?_)
  have hl : lv_has ls 4 [(1, .int 1), (0, .int (nI v0))] := hl
  refine lv_iload_n hx hb (show decode cJ6_stringSize_0f7a4 2 = .ok (.iload_n 0, 1) by decide +kernel) rfl (lv_at hl 1 rfl) ?_
  refine lv_if_lt hx hb (show decode cJ6_stringSize_0f7a4 3 = .ok (.ifCond .lt 8, 3) by decide +kernel) (tgt := 11) (by decide) (fun h => absurd h (nI_pos (by omega))) (fun _ => ?_)
  refine lv_iconst hx hb (v := 0) (show decode cJ6_stringSize_0f7a4 6 = .ok (.iconst 0, 1) by decide +kernel) (by decide) ?_
  refine lv_istore_n hx hb (show decode cJ6_stringSize_0f7a4 7 = .ok (.istore_n 1, 1) by decide +kernel) rfl hl (by decide) rfl (fun ls hl => ?_)
  have hl : lv_has ls 4 [(1, .int 0), (0, .int (nI v0))] := hl
  refine lv_iload_n hx hb (show decode cJ6_stringSize_0f7a4 8 = .ok (.iload_n 0, 1) by decide +kernel) rfl (lv_at hl 1 rfl) ?_
  refine lv_ineg hx hb (show decode cJ6_stringSize_0f7a4 9 = .ok (.ineg, 1) by decide +kernel) ?_
  refine lv_istore_n hx hb (show decode cJ6_stringSize_0f7a4 10 = .ok (.istore_n 0, 1) by decide +kernel) rfl hl (by decide) rfl (fun ls hl => ?_)
  have hl : lv_has ls 4 [(0, .int (-(nI v0))), (1, .int 0)] := hl
  refine lv_bipush hx hb (v := (-10)) (show decode cJ6_stringSize_0f7a4 11 = .ok (.bipush (-10), 2) by decide +kernel) (by decide) ?_
  refine lv_istore_n hx hb (show decode cJ6_stringSize_0f7a4 13 = .ok (.istore_n 2, 1) by decide +kernel) rfl hl (by decide) rfl (fun ls hl => ?_)
  have hl : lv_has ls 4 [(2, .int (-10)), (0, .int (-(nI v0))), (1, .int 0)] := hl
  refine lv_iconst hx hb (v := 1) (show decode cJ6_stringSize_0f7a4 14 = .ok (.iconst 1, 1) by decide +kernel) (by decide) ?_
  refine lv_istore_n hx hb (show decode cJ6_stringSize_0f7a4 15 = .ok (.istore_n 3, 1) by decide +kernel) rfl hl (by decide) rfl (fun ls hl => ?_)
  have hl : lv_has ls 4 [(3, .int 1), (2, .int (-10)), (0, .int (-(nI v0))), (1, .int 0)] := hl
  refine lv_iload_n hx hb (show decode cJ6_stringSize_0f7a4 16 = .ok (.iload_n 3, 1) by decide +kernel) rfl (lv_at hl 0 rfl) ?_
  refine lv_bipush hx hb (v := 10) (show decode cJ6_stringSize_0f7a4 17 = .ok (.bipush 10, 2) by decide +kernel) (by decide) ?_
  refine lv_icmp_ge hx hb (show decode cJ6_stringSize_0f7a4 19 = .ok (.if_icmp .ge 23, 3) by decide +kernel) (tgt := 42) (by decide) (fun h => absurd h (by decide)) (fun _ => ?_)
  refine lv_iload_n hx hb (show decode cJ6_stringSize_0f7a4 22 = .ok (.iload_n 0, 1) by decide +kernel) rfl (lv_at hl 2 rfl) ?_
  refine lv_iload_n hx hb (show decode cJ6_stringSize_0f7a4 23 = .ok (.iload_n 2, 1) by decide +kernel) rfl (lv_at hl 1 rfl) ?_
  refine lv_icmp_le hx hb (show decode cJ6_stringSize_0f7a4 24 = .ok (.if_icmp .le 7, 3) by decide +kernel) (tgt := 31) (by decide) (fun h1 => ?_) (fun h1 => ?_)
  · have h1 : 10 ≤ v0 := (js_ngl (v := v0) (k := 10) (by omega) (by decide)).mp h1
    have hdg : js_dg v0 = 2 := if_neg (by omega)
    refine lv_bipush hx hb (v := 10) (show decode cJ6_stringSize_0f7a4 31 = .ok (.bipush 10, 2) by decide +kernel) (by decide) ?_
    refine lv_iload_n hx hb (show decode cJ6_stringSize_0f7a4 33 = .ok (.iload_n 2, 1) by decide +kernel) rfl (lv_at hl 1 rfl) ?_
    refine lv_imul hx hb (show decode cJ6_stringSize_0f7a4 34 = .ok (.imul, 1) by decide +kernel) ?_
    rw [show ((10 * (-10)) : Int32) = (-100) from (by decide)]
    refine lv_istore_n hx hb (show decode cJ6_stringSize_0f7a4 35 = .ok (.istore_n 2, 1) by decide +kernel) rfl hl (by decide) rfl (fun ls hl => ?_)
    have hl : lv_has ls 4 [(2, .int (-100)), (3, .int 1), (0, .int (-(nI v0))), (1, .int 0)] := hl
    refine lv_iinc hx hb (show decode cJ6_stringSize_0f7a4 36 = .ok (.iinc 3 1, 3) by decide +kernel) hl (k := 1) rfl (v := 2) (by decide) (by decide) rfl (fun ls hl => ?_)
    have hl : lv_has ls 4 [(3, .int 2), (2, .int (-100)), (0, .int (-(nI v0))), (1, .int 0)] := hl
    refine lv_goto hx hb (show decode cJ6_stringSize_0f7a4 39 = .ok (.goto (-23), 3) by decide +kernel) (tgt := 16) (by decide) ?_
    refine lv_iload_n hx hb (show decode cJ6_stringSize_0f7a4 16 = .ok (.iload_n 3, 1) by decide +kernel) rfl (lv_at hl 0 rfl) ?_
    refine lv_bipush hx hb (v := 10) (show decode cJ6_stringSize_0f7a4 17 = .ok (.bipush 10, 2) by decide +kernel) (by decide) ?_
    refine lv_icmp_ge hx hb (show decode cJ6_stringSize_0f7a4 19 = .ok (.if_icmp .ge 23, 3) by decide +kernel) (tgt := 42) (by decide) (fun h => absurd h (by decide)) (fun _ => ?_)
    refine lv_iload_n hx hb (show decode cJ6_stringSize_0f7a4 22 = .ok (.iload_n 0, 1) by decide +kernel) rfl (lv_at hl 2 rfl) ?_
    refine lv_iload_n hx hb (show decode cJ6_stringSize_0f7a4 23 = .ok (.iload_n 2, 1) by decide +kernel) rfl (lv_at hl 1 rfl) ?_
    refine lv_icmp_le hx hb (show decode cJ6_stringSize_0f7a4 24 = .ok (.if_icmp .le 7, 3) by decide +kernel) (tgt := 31) (by decide) (fun h => absurd h (fun w9 => by have := (js_ngl (v := v0) (k := 100) (by omega) (by decide)).mp w9; omega)) (fun _ => ?_)
    refine lv_iload_n hx hb (show decode cJ6_stringSize_0f7a4 27 = .ok (.iload_n 3, 1) by decide +kernel) rfl (lv_at hl 0 rfl) ?_
    refine lv_iload_n hx hb (show decode cJ6_stringSize_0f7a4 28 = .ok (.iload_n 1, 1) by decide +kernel) rfl (lv_at hl 3 rfl) ?_
    refine lv_iadd hx hb (show decode cJ6_stringSize_0f7a4 29 = .ok (.iadd, 1) by decide +kernel) ?_
    rw [show ((2 + 0) : Int32) = (nI (js_dg v0)) from (by rw [hdg]; decide)]
    exact W.iret hx hb hr (fun t ht _ => ⟨⟨_, ws, rfl, ⟨rfl, rfl⟩, by rw [ht]; exact hP, hD⟩, hS.F ht⟩) hS.2.2 (show decode cJ6_stringSize_0f7a4 30 = .ok (.ireturn, 1) by decide +kernel) hlocks
  · have h1 : v0 < 10 := Nat.not_le.mp (fun w9 => h1 ((js_ngl (v := v0) (k := 10) (by omega) (by decide)).mpr w9))
    have hdg : js_dg v0 = 1 := if_pos h1
    refine lv_iload_n hx hb (show decode cJ6_stringSize_0f7a4 27 = .ok (.iload_n 3, 1) by decide +kernel) rfl (lv_at hl 0 rfl) ?_
    refine lv_iload_n hx hb (show decode cJ6_stringSize_0f7a4 28 = .ok (.iload_n 1, 1) by decide +kernel) rfl (lv_at hl 3 rfl) ?_
    refine lv_iadd hx hb (show decode cJ6_stringSize_0f7a4 29 = .ok (.iadd, 1) by decide +kernel) ?_
    rw [show ((1 + 0) : Int32) = (nI (js_dg v0)) from (by rw [hdg]; decide)]
    exact W.iret hx hb hr (fun t ht _ => ⟨⟨_, ws, rfl, ⟨rfl, rfl⟩, by rw [ht]; exact hP, hD⟩, hS.F ht⟩) hS.2.2 (show decode cJ6_stringSize_0f7a4 30 = .ok (.ireturn, 1) by decide +kernel) hlocks
set_option maxHeartbeats 1000000 in
theorem jc_getChars {l : Launch} {D : va_G} {cB : ClassId} {A : Nat → Prop} {EV : State → Heap → Prop} (hg : ∀ w ∈ am_WS jsW, goodWord w = true) (hm : am_EVm A EV) (hB : ss_B A EV) {b d cap n : Nat} {ml : Int32} {f : Nat → Int32} {v0 : Nat} (hv : v0 < 100) (hT9 : js_T A EV) (hcap : n + js_dg v0 ≤ cap ∧ cap ≤ 65536) (hf : js_ft f) : Met l yJ6_getChars_ba4f3 (Cond.code yJ6_getChars_ba4f3 cJ6_getChars_ba4f3 7 (some .int) :: am_WS jsW) ({ frames := 0, cells := 0, slots := 0, locals := 0 }) (js_Pc D cB A EV [.int (nI v0), .int (nI (n + js_dg v0)), .ref d] (js_b cB b d cap n ml f)) (js_Q D A (fun v w => ∃ f2, v = some (.int (nI n)) ∧ w = js_b cB b d cap n ml f2 ∧ js_ft f2 ∧ (∀ j, j < n → f2 j = f j) ∧ ∀ j, j < js_dg v0 → f2 (n + j) = Int32.ofNat (js_dd v0 j))) (0) (0) A := by
  refine Met.ofW (cc := cJ6_getChars_ba4f3) (maxL := 7) (ret := (some .int)) (by decide) rfl ?_
  intro p e s m args below meth c s₁ B hml hv
  obtain ⟨rfl, hP, hD, hK, hA0, hE0⟩ := hv
  have hx := B.exec
  have hb := B.bytes
  have hr := B.returns
  have hlocks := B.notSynchronized
  have hts0 := atoms_spec (ws := Cond.code yJ6_getChars_ba4f3 cJ6_getChars_ba4f3 7 (some .int) :: am_WS jsW) B.pre
  have hts : ∀ w ∈ am_WS jsW, w.before ([.int (nI v0), .int (nI (n + js_dg v0)), .ref d] : List Value).toArray s = true := fun w hw => hts0 w (List.mem_cons_of_mem _ hw)
  have hown : s.vm.findClass RJ6 = some m.cls := findClass_of_methodNamed B.named
  have hS : va_S A s.heap s.heap [] := va_S.rf
  have hl := lv_entry ([.int (nI v0), .int (nI (n + js_dg v0)), .ref d]) (n := 7) (Nat.le_of_ble_eq_true rfl)
  rw [lg_entry_eq]
  generalize (lg_sl ([.int (nI v0), .int (nI (n + js_dg v0)), .ref d]) ++ List.replicate (7 - (lg_sl ([.int (nI v0), .int (nI (n + js_dg v0)), .ref d])).length) Slot.unset).toArray = ls at hl ⊢
  have hl : lv_has ls 7 [(0, .int (nI v0)), (1, .int (nI (n + js_dg v0))), (2, .ref d)] := hl
  have hE : EV s s.heap := hE0
  have hA := hA0
  obtain ⟨t1, t2, hT9⟩ := hT9
  obtain ⟨⟨z1, y1⟩, z2, y2⟩ := hT9 _ _ hE0
  have hdg : 0 < js_dg v0 ∧ js_dg v0 ≤ 2 := by unfold js_dg; split <;> omega
  refine lv_iload_n hx hb (show decode cJ6_getChars_ba4f3 0 = .ok (.iload_n 1, 1) by decide +kernel) rfl (lv_at hl 1 rfl) ?_
  refine lv_istore hx hb (show decode cJ6_getChars_ba4f3 1 = .ok (.istore 5, 2) by decide +kernel) hl (by decide) rfl (fun ls hl => ?_)
  have hl : lv_has ls 7 [(5, .int (nI (n + js_dg v0))), (0, .int (nI v0)), (1, .int (nI (n + js_dg v0))), (2, .ref d)] := hl
  refine lv_iload_n hx hb (show decode cJ6_getChars_ba4f3 3 = .ok (.iload_n 0, 1) by decide +kernel) rfl (lv_at hl 1 rfl) ?_
  refine lv_if_ge hx hb (show decode cJ6_getChars_ba4f3 4 = .ok (.ifCond .ge 7, 3) by decide +kernel) (tgt := 11) (by decide) (fun _ => ?_) (fun h => absurd (nI_pos' (by omega)) h)
  refine lv_iconst hx hb (v := 0) (show decode cJ6_getChars_ba4f3 11 = .ok (.iconst 0, 1) by decide +kernel) (by decide) ?_
  refine lv_istore hx hb (show decode cJ6_getChars_ba4f3 12 = .ok (.istore 6, 2) by decide +kernel) hl (by decide) rfl (fun ls hl => ?_)
  have hl : lv_has ls 7 [(6, .int 0), (5, .int (nI (n + js_dg v0))), (0, .int (nI v0)), (1, .int (nI (n + js_dg v0))), (2, .ref d)] := hl
  refine lv_iload hx hb (show decode cJ6_getChars_ba4f3 14 = .ok (.iload 6, 2) by decide +kernel) (lv_at hl 0 rfl) ?_
  refine lv_if_ne hx hb (show decode cJ6_getChars_ba4f3 16 = .ok (.ifCond .ne 6, 3) by decide +kernel) (tgt := 22) (by decide) (fun h => absurd h (fun h => h rfl)) (fun _ => ?_)
  refine lv_iload_n hx hb (show decode cJ6_getChars_ba4f3 19 = .ok (.iload_n 0, 1) by decide +kernel) rfl (lv_at hl 2 rfl) ?_
  refine lv_ineg hx hb (show decode cJ6_getChars_ba4f3 20 = .ok (.ineg, 1) by decide +kernel) ?_
  refine lv_istore_n hx hb (show decode cJ6_getChars_ba4f3 21 = .ok (.istore_n 0, 1) by decide +kernel) rfl hl (by decide) rfl (fun ls hl => ?_)
  have hl : lv_has ls 7 [(0, .int (-(nI v0))), (6, .int 0), (5, .int (nI (n + js_dg v0))), (1, .int (nI (n + js_dg v0))), (2, .ref d)] := hl
  refine lv_iload_n hx hb (show decode cJ6_getChars_ba4f3 22 = .ok (.iload_n 0, 1) by decide +kernel) rfl (lv_at hl 0 rfl) ?_
  refine lv_bipush hx hb (v := (-100)) (show decode cJ6_getChars_ba4f3 23 = .ok (.bipush (-100), 2) by decide +kernel) (by decide) ?_
  refine lv_icmp_gt hx hb (show decode cJ6_getChars_ba4f3 25 = .ok (.if_icmp .gt 47, 3) by decide +kernel) (tgt := 72) (by decide) (fun _ => ?_) (fun h => absurd ((js_ngt (v := 100) (k := v0) (by decide) (by omega)).mpr hv) h)
  refine lv_aload_n hx hb (show decode cJ6_getChars_ba4f3 72 = .ok (.aload_n 2, 1) by decide +kernel) rfl (lv_at hl 4 rfl) ?_
  refine lv_iinc hx hb (show decode cJ6_getChars_ba4f3 73 = .ok (.iinc 5 (-1), 3) by decide +kernel) hl (k := 2) rfl (v := (nI (n + js_dg v0 - 1))) (js_dc (by omega)) (by decide) rfl (fun ls hl => ?_)
  have hl : lv_has ls 7 [(5, .int (nI (n + js_dg v0 - 1))), (0, .int (-(nI v0))), (6, .int 0), (1, .int (nI (n + js_dg v0))), (2, .ref d)] := hl
  refine lv_iload hx hb (show decode cJ6_getChars_ba4f3 76 = .ok (.iload 5, 2) by decide +kernel) (lv_at hl 0 rfl) ?_
  refine va_gets hx hb z1 hS hown (hts _ (js_in 58 rfl)) (fun _ h => h) (show decode cJ6_getChars_ba4f3 78 = .ok (.getstatic 83, 3) by decide +kernel) ?_
  refine lv_iload_n hx hb (show decode cJ6_getChars_ba4f3 81 = .ok (.iload_n 0, 1) by decide +kernel) rfl (lv_at hl 1 rfl) ?_
  refine lv_ineg hx hb (show decode cJ6_getChars_ba4f3 82 = .ok (.ineg, 1) by decide +kernel) ?_
  rw [show ((-(-(nI v0))) : Int32) = (nI v0) from (Int32.neg_neg)]
  refine va_tb hx hb y1 hS (vp_in_nI (by omega) (by decide)) (v := .int (Int32.ofNat (48 + v0 % 10))) (by rw [nI_clamp (by omega)]) (show decode cJ6_getChars_ba4f3 83 = .ok (.baload, 1) by decide +kernel) ?_
  refine va_bast hx hb hK hP hD hS 1 0 rfl rfl (vp_in_nI (by omega) (by omega)) (show decode cJ6_getChars_ba4f3 84 = .ok (.bastore, 1) by decide +kernel) (fun H locs hP hD hS => ?_)
  rw [nI_clamp (n := n + js_dg v0 - 1) (by omega)] at hP hD
  have hP : va_P D js_cl (js_b cB b d cap n ml (upd f (n + js_dg v0 - 1) (vp_nar .byte (Int32.ofNat (48 + v0 % 10))))) H := hP
  have hD : va_D A (js_b cB b d cap n ml (upd f (n + js_dg v0 - 1) (vp_nar .byte (Int32.ofNat (48 + v0 % 10))))) := hD
  have hE : EV s H := js_E hm hS hE0
  have hA := js_A hS hA0
  refine lv_iload_n hx hb (show decode cJ6_getChars_ba4f3 85 = .ok (.iload_n 0, 1) by decide +kernel) rfl (lv_at hl 1 rfl) ?_
  refine lv_bipush hx hb (v := (-9)) (show decode cJ6_getChars_ba4f3 86 = .ok (.bipush (-9), 2) by decide +kernel) (by decide) ?_
  refine lv_icmp_ge hx hb (show decode cJ6_getChars_ba4f3 88 = .ok (.if_icmp .ge 16, 3) by decide +kernel) (tgt := 104) (by decide) (fun h1 => ?_) (fun h1 => ?_)
  · have h1 : v0 ≤ 9 := (js_ngl (v := 9) (k := v0) (by decide) (by omega)).mp h1
    have hdg1 : js_dg v0 = 1 := if_pos (by omega)
    refine lv_iload hx hb (show decode cJ6_getChars_ba4f3 104 = .ok (.iload 6, 2) by decide +kernel) (lv_at hl 2 rfl) ?_
    refine lv_if_eq hx hb (show decode cJ6_getChars_ba4f3 106 = .ok (.ifCond .eq 12, 3) by decide +kernel) (tgt := 118) (by decide) (fun _ => ?_) (fun h => absurd rfl h)
    have e5 : n + js_dg v0 - 1 = n := by omega
    refine lv_iload hx hb (show decode cJ6_getChars_ba4f3 118 = .ok (.iload 5, 2) by decide +kernel) (lv_at hl 0 rfl) ?_
    rw [e5] at hP hD ⊢
    exact W.iret hx hb hr (fun t ht _ => ⟨⟨_, js_b cB b d cap n ml (upd f n (vp_nar .byte (Int32.ofNat (48 + v0 % 10)))), rfl, ⟨_, rfl, rfl, js_ftu hf (by omega), fun j hj => by unfold upd; rw [if_neg (by omega)], fun j hj => by rw [hdg1] at hj; rw [show j = 0 from by omega, (js_dn _ (by omega)).1]; unfold upd js_dd; rw [if_pos (by omega), if_pos (by omega)]; congr 1; omega⟩, by rw [ht]; exact hP, hD⟩, hS.F ht⟩) hS.2.2 (show decode cJ6_getChars_ba4f3 120 = .ok (.ireturn, 1) by decide +kernel) hlocks
  · have h1 : 10 ≤ v0 := Nat.not_lt.mp (fun w9 => h1 ((js_ngl (v := 9) (k := v0) (by decide) (by omega)).mpr (by omega)))
    have hdg1 : js_dg v0 = 2 := if_neg (by omega)
    refine lv_aload_n hx hb (show decode cJ6_getChars_ba4f3 91 = .ok (.aload_n 2, 1) by decide +kernel) rfl (lv_at hl 4 rfl) ?_
    refine lv_iinc hx hb (show decode cJ6_getChars_ba4f3 92 = .ok (.iinc 5 (-1), 3) by decide +kernel) hl (k := 0) rfl (v := (nI (n + js_dg v0 - 1 - 1))) (js_dc (by omega)) (by decide) rfl (fun ls hl => ?_)
    have hl : lv_has ls 7 [(5, .int (nI (n + js_dg v0 - 1 - 1))), (0, .int (-(nI v0))), (6, .int 0), (1, .int (nI (n + js_dg v0))), (2, .ref d)] := hl
    refine lv_iload hx hb (show decode cJ6_getChars_ba4f3 95 = .ok (.iload 5, 2) by decide +kernel) (lv_at hl 0 rfl) ?_
    refine va_gets hx hb z2 hS hown (hts _ (js_in 59 rfl)) (fun _ h => h) (show decode cJ6_getChars_ba4f3 97 = .ok (.getstatic 87, 3) by decide +kernel) ?_
    refine lv_iload_n hx hb (show decode cJ6_getChars_ba4f3 100 = .ok (.iload_n 0, 1) by decide +kernel) rfl (lv_at hl 1 rfl) ?_
    refine lv_ineg hx hb (show decode cJ6_getChars_ba4f3 101 = .ok (.ineg, 1) by decide +kernel) ?_
    rw [show ((-(-(nI v0))) : Int32) = (nI v0) from (Int32.neg_neg)]
    refine va_tb hx hb y2 hS (vp_in_nI (by omega) (by decide)) (v := .int (Int32.ofNat (48 + v0 / 10))) (by rw [nI_clamp (by omega)]) (show decode cJ6_getChars_ba4f3 102 = .ok (.baload, 1) by decide +kernel) ?_
    refine va_bast hx hb hK hP hD hS 1 0 rfl rfl (vp_in_nI (by omega) (by omega)) (show decode cJ6_getChars_ba4f3 103 = .ok (.bastore, 1) by decide +kernel) (fun H locs hP hD hS => ?_)
    rw [nI_clamp (n := n + js_dg v0 - 1 - 1) (by omega)] at hP hD
    have hP : va_P D js_cl (js_b cB b d cap n ml (upd (upd f (n + js_dg v0 - 1) (vp_nar .byte (Int32.ofNat (48 + v0 % 10)))) (n + js_dg v0 - 1 - 1) (vp_nar .byte (Int32.ofNat (48 + v0 / 10))))) H := hP
    have hD : va_D A (js_b cB b d cap n ml (upd (upd f (n + js_dg v0 - 1) (vp_nar .byte (Int32.ofNat (48 + v0 % 10)))) (n + js_dg v0 - 1 - 1) (vp_nar .byte (Int32.ofNat (48 + v0 / 10))))) := hD
    have hE : EV s H := js_E hm hS hE0
    have hA := js_A hS hA0
    refine lv_iload hx hb (show decode cJ6_getChars_ba4f3 104 = .ok (.iload 6, 2) by decide +kernel) (lv_at hl 2 rfl) ?_
    refine lv_if_eq hx hb (show decode cJ6_getChars_ba4f3 106 = .ok (.ifCond .eq 12, 3) by decide +kernel) (tgt := 118) (by decide) (fun _ => ?_) (fun h => absurd rfl h)
    have e5 : n + js_dg v0 - 1 - 1 = n := by omega
    have e6 : n + js_dg v0 - 1 = n + 1 := by omega
    refine lv_iload hx hb (show decode cJ6_getChars_ba4f3 118 = .ok (.iload 5, 2) by decide +kernel) (lv_at hl 0 rfl) ?_
    rw [e5, e6] at hP hD
    rw [e5]
    exact W.iret hx hb hr (fun t ht _ => ⟨⟨_, js_b cB b d cap n ml (upd (upd f (n + 1) (vp_nar .byte (Int32.ofNat (48 + v0 % 10)))) n (vp_nar .byte (Int32.ofNat (48 + v0 / 10)))), rfl, ⟨_, rfl, rfl, js_ftu (js_ftu hf (by omega)) (by omega), fun j hj => by unfold upd; rw [if_neg (by omega), if_neg (by omega)], fun j hj => by
          rw [hdg1] at hj
          rw [(js_dn _ (by omega)).1, (js_dn _ (by omega)).1]
          unfold upd js_dd
          rw [if_neg (show ¬ v0 < 10 by omega)]
          by_cases h0 : j = 0
          · rw [if_pos (by omega), if_pos h0]
          · rw [if_neg (by omega), if_pos (by omega), if_neg h0]⟩, by rw [ht]; exact hP, hD⟩, hS.F ht⟩) hS.2.2 (show decode cJ6_getChars_ba4f3 120 = .ok (.ireturn, 1) by decide +kernel) hlocks
