theorem th_x0 : ∀ q ∈ am_xT 9, 0 < q.2.1 := by decide +kernel
set_option maxHeartbeats 2000000 in
theorem th_R {l : Launch} {D : va_G} {cT : Nat → ClassId} {A : Nat → Prop} {EV : State → Heap → Prop} {sx : Nat → Nat} {L : Nat} {xs : Nat → Int32} {ex : List Cond} {s0 : State} (hF : ev_F s0) (hB : ev_B s0 A EV) (hl : l.stackTraces = false) : am_thrR l D cT A sx L xs ex EV := by
  intro p e R s m args below meth c H locs cells slots mt d pc E mc ms ins len ls st rest Qc XC F hls hfd hth hrest hS hc hs hcR hsR hx
  obtain ⟨⟨hex, hb, hr, hml, hown, hlk, htb, hnm⟩, ⟨hts, hK, hX, hsx, hbs, hEV0⟩, ⟨hdec, ho, hmL, hfr, hlc⟩⟩ := F
  have dd : ∀ {pc : Nat} {ins : Instr} {len : Nat}, am_find pc (am_c mt) = some (ins, len) → decode (am_b mt) pc = .ok (ins, len) ∧ am_lo ins len = true := fun {pc ins len} h => hdec (pc, ins, len) (am_find_mem h)
  obtain ⟨hU, hN⟩ := th_U hF hB hEV0
  have hEV := hB.2 _ _ hEV0
  have hf : ∀ z ∈ locs, A z.base := hS.2.2
  have hn : nxN.length = 2 := rfl
  have hsz : ls.size = c.maxLocals := by rw [hls, hml]
  unfold am_thr at hth
  split at hth
  next ix =>
    split at hth
    next q hq =>
      split at hth
      next hc1 =>
        obtain ⟨⟨h9, hh, -⟩, hd3⟩ := hc1
        rw [h9] at hown hq
        have hm := am_find_mem hq
        obtain ⟨w1, w2, hE6⟩ := am_xT_ok _ hm
        have hE0 := th_x0 _ hm
        obtain ⟨g1, g2, g3, g4⟩ := th_ot2 _ hm
        have k1 := hts _ (am_WS_at w1)
        have k2 := hts _ (am_WS_at w2)
        have hout : ∀ (n : Nat), ∀ x ∈ c.exceptionTable.toList, covers x n = false := by
          intro n x hx
          rw [htb, hh] at hx
          cases hx
        have hln : len = 3 := by
          have := (dd hfd).2
          simpa [am_lo] using this
        have d0 := (dd hfd).1
        rw [hln] at d0
        have d3 := (dd hd3).1
        obtain ⟨E0, ic0, p1, p2⟩ := q
        dsimp only at hth hE6 hE0 g1 g2 g3 g4 k1 k2 hm
        split at hth
        next is ln hi =>
          split at hth
          next hc2 =>
            obtain ⟨hsome, hd6, hd9⟩ := hc2
            cases hth
            obtain ⟨tx, htx⟩ := Option.isSome_iff_exists.mp hsome
            obtain ⟨a, ha⟩ := ev_R hF (am_find_mem htx)
            have ha := vk_R.warm hEV.1 ha
            have hl2 : ln = 2 := by
              have := (dd hi).2
              simpa [am_lo] using this
            have d4 := (dd hi).1
            rw [hl2] at d4
            have d6 := (dd hd6).1
            have d9 := (dd hd9).1
            rw [g3] at d6
            by_cases h5 : E = 5
            · subst h5
              exact nx_throw (ik := ix) (is := is) (text := tx) (sa := a) hex hb hl hown k1 k2 ha (by rw [← th_e5]; exact th_w hF hEV args hE0 hE6) (by rw [← th_e5]; exact List.forall_mem_cons.mpr ⟨g1, List.forall_mem_cons.mpr ⟨g2, th_ot 5 hE6 hE0⟩⟩) hU hN hS hsz d0 d3 (Or.inl ⟨d4, rfl⟩) d6 d9 (hout _) (by omega) (by omega) hcR hsR hlk (fun t t1 t2 t3 => hx t t1 t2 t3 ⟨hE0, hE6⟩) hf hc hs
            · have e : th_at E = vx_atS RX9 (th_ic E) (am_en E) nxN := by unfold th_at; rw [if_neg h5]
              exact vx_throwS (own := RX9) (cls := am_en E) (names := nxN) (ik := ix) (is := is) (ic := th_ic E) (text := tx) (sa := a) hex hb hl hown g4 th_fit k1 k2 ha (by rw [← e]; exact th_w hF hEV args hE0 hE6) (by rw [← e]; exact List.forall_mem_cons.mpr ⟨g1, List.forall_mem_cons.mpr ⟨g2, th_ot E hE6 hE0⟩⟩) hU hN hS hsz d0 d3 d4 d6 d9 (hout _) (by omega) (by omega) hcR hsR hlk (fun t t1 t2 t3 => hx t t1 t2 t3 ⟨hE0, hE6⟩) hf hc hs
          next => cases hth
        next is ln hi =>
          split at hth
          next hc2 =>
            obtain ⟨hsome, hd6, hd9⟩ := hc2
            cases hth
            obtain ⟨tx, htx⟩ := Option.isSome_iff_exists.mp hsome
            obtain ⟨a, ha⟩ := ev_R hF (am_find_mem htx)
            have ha := vk_R.warm hEV.1 ha
            have hl2 : ln = 3 := by
              have := (dd hi).2
              simpa [am_lo] using this
            have d4 := (dd hi).1
            rw [hl2] at d4
            have d6 := (dd hd6).1
            have d9 := (dd hd9).1
            rw [g3] at d6
            by_cases h5 : E = 5
            · subst h5
              exact nx_throw (ik := ix) (is := is) (text := tx) (sa := a) hex hb hl hown k1 k2 ha (by rw [← th_e5]; exact th_w hF hEV args hE0 hE6) (by rw [← th_e5]; exact List.forall_mem_cons.mpr ⟨g1, List.forall_mem_cons.mpr ⟨g2, th_ot 5 hE6 hE0⟩⟩) hU hN hS hsz d0 d3 (Or.inr ⟨d4, rfl⟩) d6 d9 (hout _) (by omega) (by omega) hcR hsR hlk (fun t t1 t2 t3 => hx t t1 t2 t3 ⟨hE0, hE6⟩) hf hc hs
            · have e : th_at E = vx_atS RX9 (th_ic E) (am_en E) nxN := by unfold th_at; rw [if_neg h5]
              exact vx_throwSW (own := RX9) (cls := am_en E) (names := nxN) (ik := ix) (is := is) (ic := th_ic E) (text := tx) (sa := a) hex hb hl hown g4 th_fit k1 k2 ha (by rw [← e]; exact th_w hF hEV args hE0 hE6) (by rw [← e]; exact List.forall_mem_cons.mpr ⟨g1, List.forall_mem_cons.mpr ⟨g2, th_ot E hE6 hE0⟩⟩) hU hN hS hsz d0 d3 d4 d6 d9 (hout _) (by omega) (by omega) hcR hsR hlk (fun t t1 t2 t3 => hx t t1 t2 t3 ⟨hE0, hE6⟩) hf hc hs
          next => cases hth
        next => cases hth
      next => cases hth
    next => cases hth
  next => cases hth
