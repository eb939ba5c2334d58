/-! THE TEXT THAT acts PUTS TOGETHER, 1: what the start gives for it -/
theorem mc_K {s0 s : State} (hF : ev_F s0) (hW : s0.WarmedH s.vm) : ∃ (D : va_G) (cB : ClassId), va_K D js_cl (js_ty cB) s := by
  obtain ⟨A0, hT, -⟩ := hF
  have hj := js_all hT
  obtain ⟨c4, i4, h4⟩ := u_known (C := RJ4) (T := TJ4) (N := 4) (n := 4) hj (fun w hw => List.mem_append_left _ hw) (hT (.instantiable RJ4 4) (am_tb_in 5 _ (List.mem_of_getElem? (i := 20) (by decide +kernel))))
  obtain ⟨c0, i0, h0⟩ := u_known (C := RJ0) (T := TJ0) (N := 4) (n := 4) hj (fun w hw => List.mem_append_right _ (List.mem_append_left _ hw)) (hT (.instantiable RJ0 4) (am_tb_in 2 _ (List.mem_of_getElem? (i := 180) (by decide +kernel))))
  obtain ⟨cB, k, comp, h1, h2, h3⟩ := Cond.arrayClass_spec (hT (.arrayClass .byte) (am_tb_in 1 _ (List.mem_of_getElem? (i := 141) (by decide +kernel))))
  refine ⟨((fun c => if c = 0 then c4 else c0), fun c => if c = 0 then i4 else i0), cB, va_K.moved hW.alike ⟨fun c q hq => ?_, fun k9 q hk => ?_⟩⟩
  · match c, hq with
    | 0, hq => cases hq; exact h4
    | 1, hq => cases hq; exact h0
    | c + 2, hq => simp [js_cl] at hq
  · match k9, hk with
    | 0, hk => cases hk; exact ⟨fun n z => ⟨fun k h => (by cases h), k, h2, comp, h3⟩, h1⟩
    | k9 + 1, hk => simp [js_ty] at hk
theorem mc_cl {s0 : State} (hF : ev_F s0) {A : Nat → Prop} {EV : State → Heap → Prop} (hB : ev_B s0 A EV) (U : State) (H : Heap) (hE : EV U H) : va_Nw (.castable "[B" "java/lang/Cloneable") U := by
  obtain ⟨A0, hT, -⟩ := hF
  exact va_Nw.warmC (hB.2 U H hE).1 (va_Nw.of rfl (hT _ (am_tb_in 5 _ (List.mem_of_getElem? (i := 87) (by decide +kernel)))))
theorem mc_e1 : ∀ j, j < 100 → ev_L[14 + j]? = some (.eq (.elem (.static "java/lang/Integer" "DigitOnes" "[B") (.int (Int32.ofNat j))) (.int (Int32.ofNat (48 + j % 10)))) := by decide +kernel
theorem mc_e2 : ∀ j, j < 100 → ev_L[117 + j]? = some (.eq (.elem (.static "java/lang/Integer" "DigitTens" "[B") (.int (Int32.ofNat j))) (.int (Int32.ofNat (48 + j / 10)))) := by decide +kernel
theorem mc_T {s0 : State} (hF : ev_F s0) {A : Nat → Prop} {EV : State → Heap → Prop} (hB : ev_B s0 A EV) : js_T A EV := by
  obtain ⟨A0, hT, hL⟩ := hF
  obtain ⟨t1, e1, g1⟩ := va_Tof (args := A0) (s := s0) (tm := .static "java/lang/Integer" "DigitOnes" "[B") (ty := .byte) (N := 100) (f := fun j => .int (Int32.ofNat (48 + j % 10))) (A := A) (by decide) (hL _ (List.mem_of_getElem? (i := 12) (by decide +kernel))) (va_eqt (hL _ (List.mem_of_getElem? (i := 13) (by decide +kernel)))) (fun j hj => va_eqt (hL _ (List.mem_of_getElem? (mc_e1 j hj)))) hB.1
  obtain ⟨t2, e2, g2⟩ := va_Tof (args := A0) (s := s0) (tm := .static "java/lang/Integer" "DigitTens" "[B") (ty := .byte) (N := 100) (f := fun j => .int (Int32.ofNat (48 + j / 10))) (A := A) (by decide) (hL _ (List.mem_of_getElem? (i := 115) (by decide +kernel))) (va_eqt (hL _ (List.mem_of_getElem? (i := 116) (by decide +kernel)))) (fun j hj => va_eqt (hL _ (List.mem_of_getElem? (mc_e2 j hj)))) hB.1
  have hi : (Cond.initialized "java/lang/Integer").before A0 s0 = true := hT _ (am_tb_in 1 _ (List.mem_of_getElem? (i := 30) (by decide +kernel)))
  have y1 := va_Zof (hT (.laysStatic "java/lang/Integer" "DigitOnes" "[B") (am_tb_in 5 _ (List.mem_of_getElem? (i := 179) (by decide +kernel)))) hi e1 hB.1
  have y2 := va_Zof (hT (.laysStatic "java/lang/Integer" "DigitTens" "[B") (am_tb_in 5 _ (List.mem_of_getElem? (i := 181) (by decide +kernel)))) hi e2 hB.1
  exact ⟨t1, t2, fun U H hE => ⟨⟨va_Z.moved (hB.2 U H hE).1.alike (y1.kept (ev_q hB hE)), va_T.moved (hB.2 U H hE).1.alike (g1.kept (ev_q hB hE))⟩, va_Z.moved (hB.2 U H hE).1.alike (y2.kept (ev_q hB hE)), va_T.moved (hB.2 U H hE).1.alike (g2.kept (ev_q hB hE))⟩⟩
/-- a String of the world of builders, told as the Strings outside -/
theorem mc_F {D : va_G} {cB : ClassId} {U : State} {H : Heap} {ws : va_W} {A A1 : Nat → Prop} {a0 : Nat} (hK : va_K D js_cl (js_ty cB) U) (hP : va_P D js_cl ws H) {q0 o : Nat} {fs : List Value} (ho : ws[q0]? = some (o, .inr (1, fs))) (k : Nat) (hk : k < 4) {v : Value} (hv : vp_V fs k = v) {w0 : Value} (hz : va_OF (TJ0 k).1 (TJ0 k).2.1 (TJ0 k).2.2.1 w0 a0 A U H) (h1 : ¬ A1 o) : va_OF (TJ0 k).1 (TJ0 k).2.1 (TJ0 k).2.2.1 v o A1 U H := by
  obtain ⟨cf, kf, i, f, -, q1, q2, -⟩ := hz
  obtain ⟨r, hr, hob⟩ := hP q0 _ ho
  cases hr
  obtain ⟨cf2, kf2, i2, f2, e1, e2⟩ := (hK.1 1 _ rfl).1 k hk
  cases q1.symm.trans e1
  obtain ⟨cell, c1, c2, c3, c4⟩ := hob
  refine ⟨cf, kf, i, f, cell, q1, q2, c1, ?_, ?_, h1⟩
  · rw [c3]
    exact fun w => by cases w
  · rw [e2, c4 k hk, hv]
theorem mc_S {D : va_G} {cB : ClassId} {U : State} {H : Heap} {ws : va_W} {A A1 : Nat → Prop} {ty0 ty : String} {a0 v0 : Nat} (hz : ev_S A ty0 a0 v0 U H) (hK : va_K D js_cl (js_ty cB) U) (hP : va_P D js_cl ws H) {q0 q1 o x n : Nat} {g : Nat → Int32} {z2 z3 : Value} (ho : ws[q0]? = some (o, .inr (1, [.ref x, .int 0, z2, z3]))) (hx : ws[q1]? = some (x, .inl (cB, n, .inl g))) (hn : ty.length = n) (hg : ∀ j, j < n → g j = (ev_by ty).getD j 0) (h1 : ¬ A1 o) (h2 : ¬ A1 x) : ev_S A1 ty o x U H := by
  obtain ⟨y1, y2, y3, y4⟩ := hz
  obtain ⟨cell, p1, p2, p3⟩ := va_recv hK hP (q := (RJ0, TJ0, 4)) rfl ho
  refine ⟨⟨cell, p1, p2, p3, h1⟩, mc_F hK hP ho 1 (by decide) rfl y2 h1, mc_F hK hP ho 0 (by decide) rfl y3 h1, ?_⟩
  subst hn
  refine ⟨vp_cell cB (ty.length, .inl g), hP q1 _ hx, (hK.2 0 _ rfl).1 ty.length _, (fun w => by cases w), ?_, ?_, fun j hj => ?_, h2⟩
  · show ty.length ≤ (arrV cB ty.length (fun j => .int (g j))).slots.size
    rw [arrV_size]
    exact Nat.le_refl _
  · show (arrV cB ty.length (fun j => .int (g j))).slots.size.toInt32 = _
    rw [arrV_size]
  · show _ = some (Value.int ((ev_by ty).getD j 0))
    rw [← hg j hj]
    exact arrV_read cB (fun j => .int (g j)) hj
def mc_sx (sx : Nat → Nat) (o : Nat) : Nat → Nat := fun i => if i = 1000 then o else sx i
theorem mc_sx_ne {sx : Nat → Nat} {o i : Nat} (h : i ≠ 1000) : mc_sx sx o i = sx i := if_neg h
theorem mc_sT : ∀ (own : Nat) (q : Nat × Nat), q ∈ am_sT own → q.2 ≠ 999 := by
  intro own q hq
  unfold am_sT at hq
  split at hq
  · revert q
    decide
  · cases hq
/-- what is known outside, and the new text -/
def mc_E (A1 : Nat → Prop) (EV : State → Heap → Prop) (ty : String) (o x : Nat) (U : State) (H : Heap) : Prop := EV U H ∧ ev_S A1 ty o x U H
theorem mc_O {l : Launch} {D : va_G} {cT : Nat → ClassId} {A : Nat → Prop} {sx : Nat → Nat} {tq : Nat → Option String} {L : Nat} {xs : Nat → Int32} {ex : List Cond} {EV : State → Heap → Prop} (hO : am_Out l D cT A sx tq L xs ex EV) (hgd : ∀ w ∈ am_WS ex, goodWord w = true) {ty : String} (hty : ty.length < 100 ∧ ∀ c ∈ ty.toList, c.toNat < 128) {A1 : Nat → Prop} (hAA : ∀ q, A1 q → A q) {o x : Nat} : am_Out l D cT A1 (mc_sx sx o) (am_txu tq ty) L xs ex (mc_E A1 EV ty o x) := by
  obtain ⟨⟨s1, s2⟩, ⟨s3, s4⟩, ⟨hm, -⟩, hX, hb⟩ := hO
  obtain ⟨hl, s0, hF, hB⟩ := ev_bse hb
  have hm1 : am_EVm A1 (mc_E A1 EV ty o x) := ⟨fun u U H hW h => ⟨hm.1 u U H hW h.1, h.2.go hW.alike (fun _ _ _ => rfl)⟩, fun U H H1 hq h => ⟨hm.2 U H H1 (fun a h1 h2 => hq a h1 (fun w => h2 (hAA a w))) h.1, h.2.go (Vm.Alike.refl _) hq⟩⟩
  have hB1 : ev_B s0 A1 (mc_E A1 EV ty o x) := ⟨fun a h1 h2 => hB.1 a h1 (hAA a h2), fun U H h => hB.2 U H h.1⟩
  have hss := ss_Bo hF hB1
  have hK : ∀ (i : Nat) (t : String), (fun i => if i = 999 then some ty else none) i = some t → ss_K A1 (mc_E A1 EV ty o x) t (mc_sx sx o (i + 1)) := by
    intro i t h
    dsimp only at h
    split at h
    next e =>
      cases h
      subst e
      exact ⟨hty, x, fun U H h => h.2⟩
    next => cases h
  have l1 : am_strL l A1 (mc_sx sx o) (fun i => if i = 999 then some ty else none) ex (mc_E A1 EV ty o x) := ss_L hgd hm1 hss hK
  have c1 : am_strC l A1 (mc_sx sx o) (fun i => if i = 999 then some ty else none) ex (mc_E A1 EV ty o x) := ss_C hgd hm1 hss hK
  have hw : ∀ {H0 H : Heap} {locs : List Loc}, va_S A1 H0 H locs → va_S A H0 H locs := fun h => ⟨h.1, fun q g1 g2 => h.2.1 q g1 (fun w => g2 (hAA q w)), fun z hz => hAA _ (h.2.2 z hz)⟩
  refine ⟨⟨?_, ?_⟩, ⟨?_, fun U H h => s4 U H h.1⟩, ⟨hm1, th_R hF hB1 hl⟩, ⟨fun U H h => hX.1 U H h.1, fun U H h => hX.2 U H h.1⟩, hl, s0, hF, hB1⟩
  · intro p e R s m args below meth c H locs cells slots Q cc pc ls rest own ix i tx b hx hb hml hown hts hE hS hb4 hlink htx hcat hfr hlo hc hs hd k
    by_cases h9 : i = 999
    · subst h9
      exact l1 b hx hb hml hown hts hE hS hb4 hlink htx hcat hfr hlo hc hs hd k
    · rw [mc_sx_ne (by omega)]
      exact s1 b hx hb hml hown hts hE.1 (hw hS) hb4 hlink (by unfold am_txu at htx; rw [if_neg h9] at htx; exact htx) hcat hfr hlo hc hs hd k
  · intro p e R s m args below meth c H locs cells slots Q cc pc ls rest own ix i tx ch j hx hb hml hown hts hE hS hlink htx hin hch hcat hfr hlo hc hs hd k
    by_cases h9 : i = 999
    · subst h9
      exact c1 hx hb hml hown hts hE hS hlink htx hin hch hcat hfr hlo hc hs hd k
    · rw [mc_sx_ne (by omega)]
      exact s2 hx hb hml hown hts hE.1 (hw hS) hlink (by unfold am_txu at htx; rw [if_neg h9] at htx; exact htx) hin hch hcat hfr hlo hc hs hd k
  · intro U H own ix i hE hf
    have hne := mc_sT own _ (am_find_mem hf)
    rw [mc_sx_ne (by omega)]
    exact s3 U H own ix i hE.1 hf
