/-! THE JVM ANSWERS WHAT THE SMALL MACHINE ANSWERS, 5: the induction over the run's length -/
theorem am_io_spec {o ix kd : Nat} {m2 : am_M1} {p1 p2 p3 p4 p5 : Nat} (h : am_io o (ix, kd, m2, p1, p2, p3, p4, p5) = true) :
    (am_at p1 = some (.methodLink (am_cn o) ix (am_y m2)) ∧ am_at p4 = some (.initialized (am_cn (am_own m2))) ∧ am_at p5 = some (am_cw m2)) ∧ ((am_y m2).cls = am_cn (am_own m2) ∧ (parseMethodDescriptor (am_y m2).desc).map (fun d => d.parameters.length) = some (am_np m2) ∧ plainName (am_y m2).cls = true ∧ (am_y m2).cls ≠ "java/lang/invoke/MethodHandle" ∧ (am_y m2).cls ≠ "java/lang/invoke/VarHandle") ∧ (am_mL m2 ≤ 21 ∧ am_own m2 < 12 ∧ (am_np m2 + 1 ≤ am_mL m2 ∨ kd = 1) ∧ am_np m2 ≤ am_mL m2 ∧ (am_wt m2 = false ∨ kd = 1)) ∧
    (kd = 0 → am_at p2 = some (.instanceMethod (am_y m2)) ∧ am_at p3 = some (.selects (am_cn (am_own m2)) (am_y m2) (am_y m2)) ∧ am_own m2 < 11) ∧ (kd = 1 → am_at p2 = some (.static (am_y m2))) ∧ (kd = 2 → am_at p2 = some (.instanceMethod (am_y m2)) ∧ (am_y m2).name = "<init>" ∧ am_rt m2 = none) ∧ (am_wt m2 = true ∨ am_hh m2 = []) := by
  unfold am_io am_ioB at h
  simp only [Bool.and_eq_true, Bool.or_eq_true, decide_eq_true_eq] at h
  obtain ⟨⟨⟨⟨⟨⟨⟨⟨⟨⟨⟨⟨⟨⟨⟨⟨h1, h2⟩, h3⟩, h4⟩, h5⟩, h6⟩, h7⟩, h8⟩, h9⟩, h10⟩, h11⟩, h12⟩, h13⟩, h14⟩, h15⟩, h16⟩, h17⟩ := h
  exact ⟨⟨h1, h2, h3⟩, ⟨h4, h5, h6, h7, h8⟩, ⟨h9, h10, h11, h12, h13⟩, fun q => ⟨(h14.resolve_left (not_not_intro q)).1.1, (h14.resolve_left (not_not_intro q)).1.2, (h14.resolve_left (not_not_intro q)).2⟩, fun q => h15.resolve_left (not_not_intro q), fun q => ⟨(h16.resolve_left (not_not_intro q)).1.1, (h16.resolve_left (not_not_intro q)).1.2, (h16.resolve_left (not_not_intro q)).2⟩, h17⟩
theorem am_qT_nz : ∀ o, o < 12 → ∀ q ∈ am_qT o, q.1 ≠ 0 := by decide +kernel
theorem am_ioN_spec {ix kd : Nat} {m2 : am_M1} {p2 p4 p5 : Nat} (h : am_ioN (ix, kd, m2, p2, p4, p5) = true) :
    (am_at p4 = some (.initialized (am_cn (am_own m2))) ∧ am_at p5 = some (am_cw m2)) ∧ ((am_y m2).cls = am_cn (am_own m2) ∧ (parseMethodDescriptor (am_y m2).desc).map (fun d => d.parameters.length) = some (am_np m2) ∧ plainName (am_y m2).cls = true ∧ (am_y m2).cls ≠ "java/lang/invoke/MethodHandle" ∧ (am_y m2).cls ≠ "java/lang/invoke/VarHandle") ∧ (am_mL m2 ≤ 21 ∧ am_own m2 < 12 ∧ (am_np m2 + 1 ≤ am_mL m2 ∨ kd = 3) ∧ am_np m2 ≤ am_mL m2 ∧ am_wt m2 = false ∧ am_hh m2 = [] ∧ (kd = 3 ∨ kd = 4)) ∧
    (kd = 3 → am_at p2 = some (.static (am_y m2))) ∧ (kd = 4 → am_at p2 = some (.instanceMethod (am_y m2)) ∧ (am_y m2).name = "<init>" ∧ am_rt m2 = none) := by
  unfold am_ioN at h
  simp only [Bool.and_eq_true, Bool.or_eq_true, decide_eq_true_eq] at h
  obtain ⟨⟨⟨⟨⟨⟨⟨⟨⟨⟨⟨⟨⟨⟨⟨h2, h3⟩, h4⟩, h5⟩, h6⟩, h7⟩, h8⟩, h9⟩, h10⟩, h11⟩, h12⟩, h13⟩, h14⟩, h15⟩, h16⟩, h17⟩ := h
  exact ⟨⟨h2, h3⟩, ⟨h4, h5, h6, h7, h8⟩, ⟨h9, h10, h11, h12, h13, h14, h15⟩, fun q => h16.resolve_left (not_not_intro q), fun q => ⟨(h17.resolve_left (not_not_intro q)).1.1, (h17.resolve_left (not_not_intro q)).1.2, (h17.resolve_left (not_not_intro q)).2⟩⟩
theorem am_inv_some {o ix : Nat} {q : Nat × am_M1} (h : am_inv o ix = some q) : (∃ p1 p2 p3 p4 p5, (ix, q.1, q.2, p1, p2, p3, p4, p5) ∈ am_iT o) ∨ ∃ p2 p4 p5, (ix, q.1, q.2, p2, p4, p5) ∈ am_iN o := by
  unfold am_inv at h
  split at h
  next q9 hf =>
    obtain ⟨a, b, p1, p2, p3, p4, p5⟩ := q9
    cases h
    exact Or.inl ⟨p1, p2, p3, p4, p5, am_find_mem hf⟩
  next =>
    split at h
    next q9 hf =>
      obtain ⟨a, b, p2, p4, p5⟩ := q9
      cases h
      exact Or.inr ⟨p2, p4, p5, am_find_mem hf⟩
    next => cases h
theorem am_qT_e0 : ∀ o, o < 12 → ∀ q ∈ am_qT o, q.2.1 ≠ 0 := by decide +kernel
def am_Sim (l : Launch) (D : va_G) (cT : Nat → ClassId) (L : Nat) (xs : Nat → Int32) (ex : List Cond) (n : Nat) : Prop :=
  ∀ {A : Nat → Prop} {sx : Nat → Nat} {tq : Nat → Option String} {EV : State → Heap → Prop} (_ : am_Out l D cT A sx tq L xs ex EV) {p : Program} {e : Env} {R : Room} {s : State} {m : MethodId} {args : Array Value} {below : List Frame} {meth : Method} {c : Code} {H : Heap} {locs : List Loc} {cells slots : Nat} {mt : am_M1} {d pc mc ms : Nat} {lv : am_L} {st : List Value} {h : am_H} {ph : Bool} {r : am_R} {ls : Array Slot} {ba : Nat → Nat},
    am_FF D cT A sx L xs ex EV p R s m args meth c mt d → am_lh ba sx ls (am_mL mt) lv → (am_wl h.1.length lv ∧ am_wt1 h.1.length st ∧ am_wh h.1) → am_Wd D cT ba sx A h H → va_S A s.heap H locs → am_run L xs n tq d mt pc lv st h ph = some r →
    cells + r.2.2.2.1 ≤ mc → slots + r.2.2.2.2 ≤ ms → mc ≤ R.cells → ms ≤ R.slots →
    W p l e R s m args below meth c H locs cells slots (vx_MQ below (am_Qc D cT A ba sx h.1.length r) (am_Xc D cT A ba sx h.1.length r) args s mc ms A) (F0 m pc ls (st.map (am_v ba sx)))
section AMF
variable {p : Program} {l : Launch} {e : Env} {R : Room} {s : State} {m : MethodId} {args : Array Value} {below : List Frame} {meth : Method} {c : Code} {H : Heap} {locs : List Loc} {cells slots : Nat} {Q : State → Prop}
variable {D : va_G} {cT : Nat → ClassId} {A : Nat → Prop} {ba : Nat → Nat} {sx : Nat → Nat} {tq : Nat → Option String} {L : Nat} {xs : Nat → Int32} {ex : List Cond} {EV : State → Heap → Prop} {mt : am_M1} {d pc : Nat} {ls : Array Slot}
theorem am_met {n : Nat} (IH : am_Sim l D cT L xs ex n) (hO : am_Out l D cT A sx tq L xs ex EV) {m2 : am_M1} {as : List Value} {h : am_H} {ph : Bool} {r : am_R} (hrun : am_run L xs n tq d m2 0 (am_ini (am_mL m2) as) [] h ph = some r) (hwa : am_wt1 h.1.length as) (hwh : am_wh h.1)
    (hy : plainName (am_y m2).cls = true) (hcls : (am_y m2).cls = am_cn (am_own m2)) (hown : am_own m2 < 12) (hmL : am_mL m2 ≤ 21) (hlen : as.length ≤ am_mL m2) (hcs : am_cs as = as.length) (hdec : am_dec m2) (hhh : am_wt m2 = true ∨ am_hh m2 = []) :
    vx_Met l (am_y m2) (am_cw m2 :: am_WS ex) ({ frames := d + 6, cells := r.2.2.2.1, slots := r.2.2.2.2, locals := 40 * d + 200 }) (am_Pc D cT A ba sx L xs EV as h) (am_Qc D cT A ba sx h.1.length r) (am_Xc D cT A ba sx h.1.length r) r.2.2.2.1 r.2.2.2.2 A := by
  have body : ∀ p e s m args below meth c s₁, BodyLoose p l (am_y m2) (headSpec (am_cw m2 :: am_WS ex) ({ frames := d + 6, cells := r.2.2.2.1, slots := r.2.2.2.2, locals := 40 * d + 200 })) (am_b m2) (am_mL m2) (am_rt m2) e s m args below meth c s₁ → c.maxLocals = am_mL m2 → c.exceptionTable.toList = tableOf (am_hh m2) → am_Pc D cT A ba sx L xs EV as h args s →
      W p l e (headSpec (am_cw m2 :: am_WS ex) ({ frames := d + 6, cells := r.2.2.2.1, slots := r.2.2.2.2, locals := 40 * d + 200 })).room s m args below meth c s.heap [] 0 0 (vx_MQ below (am_Qc D cT A ba sx h.1.length r) (am_Xc D cT A ba sx h.1.length r) args s r.2.2.2.1 r.2.2.2.2 A) (entryFrame m args (am_mL m2)) := by
    intro p e s m args below meth c s₁ B hml htb hPc
    obtain ⟨ha, hWd, hK, hX, hb0, hb1, hE⟩ := hPc
    have hts : ∀ w ∈ am_cw m2 :: am_WS ex, w.before args s = true := atoms_spec B.pre
    have hcl : s.vm.findClass (am_cn (am_own m2)) = some m.cls := by rw [← hcls]; exact findClass_of_methodNamed B.named
    have F : am_FF D cT A sx L xs ex EV p (headSpec (am_cw m2 :: am_WS ex) ({ frames := d + 6, cells := r.2.2.2.1, slots := r.2.2.2.2, locals := 40 * d + 200 })).room s m args meth c m2 d :=
      ⟨⟨B.exec, B.bytes, B.returns, hml, hcl, B.notSynchronized, htb, (name_of_methodNamed B.named B.method).1⟩, ⟨fun w hw => hts w (List.mem_cons_of_mem _ hw), hK, hX, hb0, hb1, hE⟩, ⟨hdec, hown, hmL, Nat.le_refl _, Nat.le_refl _⟩⟩
    subst ha
    rw [lg_entry_eq]
    exact IH hO F (am_lh_ini hlen hcs) ⟨am_wl_ini hwa, fun v hv => absurd hv List.not_mem_nil, hwh⟩ hWd va_S.rf hrun (by rw [Nat.zero_add]; exact Nat.le_refl _) (by rw [Nat.zero_add]; exact Nat.le_refl _) (Nat.le_refl _) (Nat.le_refl _)
  cases hw : am_wt m2 with
  | false =>
    have hh0 : am_hh m2 = [] := hhh.resolve_left (by rw [hw]; decide)
    refine vx_ofW (cc := am_b m2) (maxL := am_mL m2) (ret := am_rt m2) (ws' := am_WS ex) hy (by unfold am_cw; rw [if_neg (by rw [hw]; decide)]) ?_
    intro p e s m args below meth c s₁ B hml htb hPc
    refine body p e s m args below meth c s₁ B hml ?_ hPc
    rw [hh0]
    exact List.eq_nil_iff_forall_not_mem.mpr (fun x hx => htb x hx)
  | true =>
    refine vx_ofWH (cc := am_b m2) (maxL := am_mL m2) (ret := am_rt m2) (hh := am_hh m2) (ws' := am_WS ex) hy (by unfold am_cw; rw [if_pos hw]) ?_
    intro p e s m args below meth c s₁ B hml hPc
    refine body p e s m args below meth c s₁ B hml ?_ hPc
    have h9 : (am_cw m2).before args s = true := atoms_spec (ws := am_cw m2 :: am_WS ex) B.pre _ List.mem_cons_self
    unfold am_cw at h9
    rw [if_pos hw] at h9
    exact vx_table (x := am_y m2) B h9
theorem am_pre (hev : am_EVm A EV) (F : am_FF D cT A sx L xs ex EV p R s m args meth c mt d) {h : am_H} {as : List Value} (hW : am_Wd D cT ba sx A h H) (hS : va_S A s.heap H locs) : FrameBlind (am_Pc D cT A ba sx L xs EV as h) ∧ ∀ U : State, U.heap = H → s.WarmedH U.vm → am_Pc D cT A ba sx L xs EV as h (as.map (am_v ba sx)).toArray U := by
  obtain ⟨-, ⟨hts, hK, hX, ⟨hbl, hbA⟩, hA, hEV⟩, -⟩ := F
  refine ⟨fun a U g mk q => ?_, fun U hU hWm => ⟨rfl, by rw [hU]; exact hW, va_K.moved hWm.alike hK, ?_, ⟨by rw [hU]; exact Nat.lt_of_lt_of_le hbl hS.1, hbA⟩, fun q hq => hA q (Nat.le_trans hS.1 (by rw [hU] at hq; exact hq)), ?_⟩⟩
  · obtain ⟨q1, q2, q3, q4, q5, q7, q6⟩ := q
    exact ⟨q1, q2, va_K.moved (u := U) (U := U.calling g mk a) (Vm.Alike.refl U.vm) q3, va_X.moved (u := U) (U := U.calling g mk a) (Vm.Alike.refl U.vm) q4, q5, q7, hev.1 U (U.calling g mk a) _ (State.WarmedH.refl U) q6⟩
  · rw [hU]
    exact va_X.moved hWm.alike (hX.kept (hS.2.1 (sx 0) hbl hbA))
  · rw [hU]
    exact hev.1 s U H hWm (hev.2 s s.heap H (fun a h1 h2 => hS.2.1 a h1 h2) hEV)
theorem am_call_run {n : Nat} (IH : am_Sim l D cT L xs ex n) (hO : am_Out l D cT A sx tq L xs ex EV) (hgd : ∀ w ∈ am_WS ex, goodWord w = true) {ins : Instr} {len : Nat} {st as rest : List Value} {m2 : am_M1} {h : am_H} {ph : Bool} {r : am_R} (F : am_FF D cT A sx L xs ex EV p R s m args meth c mt (d + 1)) (hls : ls.size = am_mL mt) (hd : decode (am_b mt) pc = .ok (ins, len)) (hlo : am_lo ins len = true)
    (hst : am_wt1 h.1.length st) (hW : am_Wd D cT ba sx A h H) (hS : va_S A s.heap H locs) (hcall : am_call mt ins st h = some (m2, as, rest)) (hrun : am_run L xs n tq d m2 0 (am_ini (am_mL m2) as) [] h ph = some r) (hwh : am_wh h.1) (hc : cells + r.2.2.2.1 ≤ R.cells) (hs : slots + r.2.2.2.2 ≤ R.slots) :
    len = 3 ∧ ∃ a : Array Value, vx_Run p l e R s m args below meth c H locs cells slots r.2.2.2.1 r.2.2.2.2 (F0 m pc ls (st.map (am_v ba sx))) (rest.map (am_v ba sx)) (am_Qc D cT A ba sx h.1.length r a) (am_Xc D cT A ba sx h.1.length r) A := by
  have F0' := F
  have hev : am_EVm A EV := hO.2.2.1.1
  have hNW : am_nwR EV := hO.2.1.2
  obtain ⟨hwa, -⟩ := am_call_w hcall hst
  obtain ⟨⟨hx, hb, hr, hml, hown, hlk, htb, hnm⟩, ⟨hts, hK, hX, hsx, hbs, hEV⟩, ⟨hdec, ho, hmL, hfr, hlc⟩⟩ := F
  have wrd : ∀ {pl : Nat} {w : Cond}, am_at pl = some w → w ∈ am_WS ex := fun hp => am_WS_at hp
  have CF : CallFix p m c (am_b mt) (am_mL mt) s args (am_WS ex) (am_cn (am_own mt)) := ⟨hx, hb, hml, hown, hts⟩
  have hsplit : ∀ k : Nat, st.map (am_v ba sx) = ((st.take k).reverse.map (am_v ba sx)).reverse ++ (st.drop k).map (am_v ba sx) := by
    intro k
    rw [← List.map_reverse, List.reverse_reverse, ← List.map_append, List.take_append_drop]
  unfold am_call at hcall
  split at hcall
  next ix =>
    simp only [am_lo, beq_iff_eq] at hlo
    subst hlo
    split at hcall
    next q9 hf =>
      obtain ⟨kd, m3⟩ := q9
      dsimp only at hcall
      split at hcall
      next i rest3 hdr =>
        split at hcall
        next cj fs he =>
          split at hcall
          next hcond =>
            obtain ⟨⟨hkd, hcj⟩, hl3, hcs3, hct3⟩ := hcond
            cases hcall
            rcases am_inv_some hf with ⟨p1, p2, p3, p4, p5, hmem⟩ | ⟨p2, p4, p5, hmem⟩
            case inr =>
              obtain ⟨-, -, ⟨-, -, -, -, -, -, hk34⟩, -, -⟩ := am_ioN_spec (am_iN_ok _ _ hmem).1.1
              dsimp only at hk34
              omega
            dsimp only at hmem
            obtain ⟨⟨w1, w4, w5⟩, ⟨y1, y2, y3, y4, y5⟩, ⟨z1, z2, z3, z4, z5⟩, k0, -, -, hhh⟩ := am_io_spec (am_iT_ok _ _ hmem)
            obtain ⟨w2, w3, z6⟩ := k0 hkd
            have hwt : am_wt m2 = false := z5.resolve_right (by omega)
            have hcw : am_cw m2 = .code (am_y m2) (am_b m2) (am_mL m2) (am_rt m2) := by unfold am_cw; rw [if_neg (by rw [hwt]; decide)]
            have hlas : (Value.ref i :: (st.take (am_np m2)).reverse).length = am_np m2 + 1 := by simp only [List.length_cons, List.length_reverse]; omega
            have hM := am_met (d := d) (ba := ba) IH hO hrun hwa hwh y3 y1 z2 z1 (by rw [hlas]; rcases z3 with q | q <;> omega) (by
              rw [hlas]
              have e9 : am_cs (Value.ref i :: (st.take (am_np m2)).reverse) = 1 + am_cs (st.take (am_np m2)).reverse := by simp [am_cs, Value.category]
              rw [e9, am_cs_rev]; omega) (am_iT_dec _ _ hmem) hhh
            obtain ⟨hbl, hpr⟩ := am_pre (as := Value.ref i :: (st.take (am_np m2)).reverse) hev F0' hW hS
            have hg := am_w_get (cT := cT) (ba := ba) (sx := sx) he
            have hrecv := va_recv hK hW.1 (am_cl_at (ci := cj) (by omega)) hg
            rw [hcj] at hrecv
            have cw := cwV (R := R) (args := args) (s := s) (C := am_cn (am_own m2)) (own := am_cn (am_own mt)) (index := ix) (rm := { frames := d + 6, cells := r.2.2.2.1, slots := r.2.2.2.2, locals := 40 * d + 200 }) (ws := am_cw m2 :: am_WS ex) (am_np m2) hts (am_goodIn hgd (fun w hw => by
              rcases List.mem_append.mp hw with hw | hw
              · simp only [List.mem_cons, List.not_mem_nil, or_false] at hw
                rcases hw with rfl | rfl | rfl | rfl
                · exact wrd w1
                · exact wrd w2
                · exact wrd w3
                · exact wrd w4
              · rcases List.mem_cons.mp hw with rfl | hw
                · exact wrd w5
                · exact hw)) (by rw [hcw]) rfl rfl ⟨y1, y4, y5, y2⟩ ⟨by show d + 6 + 1 ≤ _; omega, by show 8 + (am_mL m2 + 11) + (40 * d + 200) ≤ _; omega⟩
            refine ⟨rfl, (Value.ref (ba i) :: (st.take (am_np m2)).reverse.map (am_v ba sx)).toArray, ?_⟩
            refine vx_runV (As := (st.take (am_np m2)).reverse.map (am_v ba sx)) (b := ba i) CF hM cw ⟨hbl, hrecv, fun U hU hWm => ?_⟩ rfl (by rw [List.length_map, List.length_reverse]; exact hl3) hls ?_ (lv_room (by rw [am_cs_map]; exact hcs3)) hd ⟨hc, hs⟩
            · have h9 := hpr U hU hWm
              rw [List.map_cons, am_v_ref] at h9
              exact h9
            · show st.map (am_v ba sx) = _
              rw [hsplit (am_np m2), hdr, List.map_cons, am_v_ref]
          next => cases hcall
        next => cases hcall
      next => cases hcall
    next => cases hcall
  next ix =>
    simp only [am_lo, beq_iff_eq] at hlo
    subst hlo
    split at hcall
    next q9 hf =>
      obtain ⟨kd, m3⟩ := q9
      dsimp only at hcall
      split at hcall
      next hcond =>
        obtain ⟨hkd, hl3, hcs3, hct3⟩ := hcond
        cases hcall
        have hlas : (st.take (am_np m2)).reverse.length = am_np m2 := by rw [List.length_reverse]; exact hl3
        obtain ⟨hbl, hpr⟩ := am_pre (as := (st.take (am_np m2)).reverse) hev F0' hW hS
        refine ⟨rfl, ((st.take (am_np m2)).reverse.map (am_v ba sx)).toArray, ?_⟩
        rcases am_inv_some hf with ⟨p1, p2, p3, p4, p5, hmem⟩ | ⟨p2, p4, p5, hmem⟩
        · dsimp only at hmem
          have hkd2 := am_iT_kd _ ho _ hmem
          dsimp only at hkd2
          obtain ⟨⟨w1, w4, w5⟩, ⟨y1, y2, y3, y4, y5⟩, ⟨z1, z2, z3, z4, z5⟩, -, k1, -, hhh⟩ := am_io_spec (am_iT_ok _ _ hmem)
          have w2 := k1 (by omega)
          have hM := am_met (d := d) (ba := ba) IH hO hrun hwa hwh y3 y1 z2 z1 (by rw [hlas]; exact z4) (by rw [hlas, am_cs_rev]; exact hct3) (am_iT_dec _ _ hmem) hhh
          have hgi : ∀ w ∈ va_wsS (am_cn (am_own mt)) ix (am_y m2) (am_cw m2 :: am_WS ex), w ∈ am_WS ex := fun w hw => by
            rcases List.mem_append.mp hw with hw | hw
            · simp only [List.mem_cons, List.not_mem_nil, or_false] at hw
              rcases hw with rfl | rfl | rfl
              · exact wrd w1
              · exact wrd w2
              · rw [y1]; exact wrd w4
            · rcases List.mem_cons.mp hw with rfl | hw
              · exact wrd w5
              · exact hw
          cases hwt : am_wt m2 with
          | false =>
            have hcw : am_cw m2 = .code (am_y m2) (am_b m2) (am_mL m2) (am_rt m2) := by unfold am_cw; rw [if_neg (by rw [hwt]; decide)]
            have hGI : GoodIn (am_WS ex) (am_cw m2 :: am_WS ex) := am_goodIn hgd (fun w hw => hgi w (List.mem_append_right _ hw))
            have cw := callB_of (R := R) (args := args) (s := s) (own := am_cn (am_own mt)) (index := ix) (rm := { frames := d + 6, cells := r.2.2.2.1, slots := r.2.2.2.2, locals := 40 * d + 200 }) (ws := am_cw m2 :: am_WS ex) (am_np m2) hts hGI (by rw [hcw]) rfl rfl (by rw [y1]; exact hts _ (wrd w4)) (hts _ (wrd w1)) ⟨y4, y5, y2⟩ ⟨by show d + 6 + 1 ≤ _; omega, by show 8 + (am_mL m2 + 11) + (40 * d + 200) ≤ _; omega⟩
            exact vx_runS (As := (st.take (am_np m2)).reverse.map (am_v ba sx)) CF hM ⟨cw, hts _ (wrd w2)⟩ ⟨hbl, hpr⟩ rfl (by rw [List.length_map]; exact hlas) hls (hsplit _) (lv_room (by rw [am_cs_map]; exact hcs3)) hd ⟨hc, hs⟩
          | true =>
            have hcw : am_cw m2 = .codeWith (am_y m2) (am_b m2) (am_mL m2) (am_rt m2) (am_hh m2) := by unfold am_cw; rw [if_pos hwt]
            have cw := vx_cwSW (R := R) (args := args) (s := s) (own := am_cn (am_own mt)) (index := ix) (rm := { frames := d + 6, cells := r.2.2.2.1, slots := r.2.2.2.2, locals := 40 * d + 200 }) (ws := am_cw m2 :: am_WS ex) (am_np m2) hts (am_goodIn hgd hgi) (by rw [hcw]) rfl rfl ⟨y4, y5, y2⟩ ⟨by show d + 6 + 1 ≤ _; omega, by show 8 + (am_mL m2 + 11) + (40 * d + 200) ≤ _; omega⟩
            exact vx_runSX (As := (st.take (am_np m2)).reverse.map (am_v ba sx)) CF hM cw ⟨hbl, hpr⟩ rfl (by rw [List.length_map]; exact hlas) hls (hsplit _) (lv_room (by rw [am_cs_map]; exact hcs3)) hd ⟨hc, hs⟩
        · dsimp only at hmem
          obtain ⟨⟨w4, w5⟩, ⟨y1, y2, y3, y4, y5⟩, ⟨z1, z2, z3, z4, hwt, hh0, -⟩, k3, -⟩ := am_ioN_spec (am_iN_ok _ _ hmem).1.1
          have w2 := k3 (by
            obtain ⟨-, -, ⟨-, -, -, -, -, -, hk34⟩, -, -⟩ := am_ioN_spec (am_iN_ok _ _ hmem).1.1
            omega)
          have hM := am_met (d := d) (ba := ba) IH hO hrun hwa hwh y3 y1 z2 z1 (by rw [hlas]; exact z4) (by rw [hlas, am_cs_rev]; exact hct3) (am_iN_ok _ _ hmem).2 (Or.inr hh0)
          have hcw : am_cw m2 = .code (am_y m2) (am_b m2) (am_mL m2) (am_rt m2) := by unfold am_cw; rw [if_neg (by rw [hwt]; decide)]
          have hGI : GoodIn (am_WS ex) (am_cw m2 :: am_WS ex) := am_goodIn hgd (fun w hw => by
            rcases List.mem_cons.mp hw with rfl | hw
            · exact wrd w5
            · exact hw)
          have hlk2 := (hNW s s.heap hEV).2 _ _ hmem
          dsimp only [am_nwM] at hlk2
          have cw := va_cnB (R := R) (args := args) (s := s) (own := am_cn (am_own mt)) (index := ix) (host := RX9) (rm := { frames := d + 6, cells := r.2.2.2.1, slots := r.2.2.2.2, locals := 40 * d + 200 }) (ws := am_cw m2 :: am_WS ex) (am_np m2) hts hGI (by rw [hcw]) rfl rfl hlk2 (by rw [y1]; exact hts _ (wrd w4)) ⟨y4, y5, y2⟩ ⟨by show d + 6 + 1 ≤ _; omega, by show 8 + (am_mL m2 + 11) + (40 * d + 200) ≤ _; omega⟩
          exact vx_runSN (As := (st.take (am_np m2)).reverse.map (am_v ba sx)) CF hM ⟨cw, hts _ (wrd w2), trivial⟩ ⟨hbl, hpr⟩ rfl (by rw [List.length_map]; exact hlas) hls (hsplit _) (lv_room (by rw [am_cs_map]; exact hcs3)) hd ⟨hc, hs⟩
      next => cases hcall
    next => cases hcall
  next ix =>
    simp only [am_lo, beq_iff_eq] at hlo
    subst hlo
    split at hcall
    next q9 hf =>
      obtain ⟨kd, m3⟩ := q9
      dsimp only at hcall
      split at hcall
      next i rest3 hdr =>
        split at hcall
        next hcond =>
          obtain ⟨hkd, hl3, hcs3, hct3⟩ := hcond
          cases hcall
          have hlas : (Value.ref i :: (st.take (am_np m2)).reverse).length = am_np m2 + 1 := by simp only [List.length_cons, List.length_reverse]; omega
          have hcs4 : am_cs (Value.ref i :: (st.take (am_np m2)).reverse) = (Value.ref i :: (st.take (am_np m2)).reverse).length := by
            rw [hlas]
            have e9 : am_cs (Value.ref i :: (st.take (am_np m2)).reverse) = 1 + am_cs (st.take (am_np m2)).reverse := by simp [am_cs, Value.category]
            rw [e9, am_cs_rev]; omega
          obtain ⟨hbl, hpr⟩ := am_pre (as := Value.ref i :: (st.take (am_np m2)).reverse) hev F0' hW hS
          have hpr2 : ∀ U : State, U.heap = H → s.WarmedH U.vm → am_Pc D cT A ba sx L xs EV (Value.ref i :: (st.take (am_np m2)).reverse) h (Value.ref (ba i) :: (st.take (am_np m2)).reverse.map (am_v ba sx)).toArray U := fun U hU hWm => by
            have h9 := hpr U hU hWm
            rw [List.map_cons, am_v_ref] at h9
            exact h9
          have hst9 : st.map (am_v ba sx) = ((st.take (am_np m2)).reverse.map (am_v ba sx)).reverse ++ .ref (ba i) :: rest.map (am_v ba sx) := by
            rw [hsplit (am_np m2), hdr, List.map_cons, am_v_ref]
          refine ⟨rfl, (Value.ref (ba i) :: (st.take (am_np m2)).reverse.map (am_v ba sx)).toArray, ?_⟩
          rcases am_inv_some hf with ⟨p1, p2, p3, p4, p5, hmem⟩ | ⟨p2, p4, p5, hmem⟩
          · dsimp only at hmem
            have hkd2 := am_iT_kd _ ho _ hmem
            dsimp only at hkd2
            obtain ⟨⟨w1, w4, w5⟩, ⟨y1, y2, y3, y4, y5⟩, ⟨z1, z2, z3, z4, z5⟩, -, -, k2, hhh⟩ := am_io_spec (am_iT_ok _ _ hmem)
            obtain ⟨w2, w3, z6⟩ := k2 (by omega)
            have hwt : am_wt m2 = false := z5.resolve_right (by omega)
            have hcw : am_cw m2 = .code (am_y m2) (am_b m2) (am_mL m2) none := by unfold am_cw; rw [if_neg (by rw [hwt]; decide), z6]
            have hM := am_met (d := d) (ba := ba) IH hO hrun hwa hwh y3 y1 z2 z1 (by rw [hlas]; rcases z3 with q | q <;> omega) hcs4 (am_iT_dec _ _ hmem) hhh
            have hGI : GoodIn (am_WS ex) (am_cw m2 :: am_WS ex) := am_goodIn hgd (fun w hw => by
              rcases List.mem_cons.mp hw with rfl | hw
              · exact wrd w5
              · exact hw)
            have cw := callB_of (R := R) (args := args) (s := s) (own := am_cn (am_own mt)) (index := ix) (rm := { frames := d + 6, cells := r.2.2.2.1, slots := r.2.2.2.2, locals := 40 * d + 200 }) (ws := am_cw m2 :: am_WS ex) (am_np m2) hts hGI (by rw [hcw]) rfl rfl (by rw [y1]; exact hts _ (wrd w4)) (hts _ (wrd w1)) ⟨y4, y5, y2⟩ ⟨by show d + 6 + 1 ≤ _; omega, by show 8 + (am_mL m2 + 11) + (40 * d + 200) ≤ _; omega⟩
            exact vx_runI (As := (st.take (am_np m2)).reverse.map (am_v ba sx)) (b := ba i) CF hM ⟨cw, w3, hts _ (wrd w2)⟩ ⟨hbl, hpr2⟩ rfl (by rw [List.length_map, List.length_reverse]; exact hl3) hls hst9 (lv_room (by rw [am_cs_map]; exact hcs3)) hd ⟨hc, hs⟩
          · dsimp only at hmem
            obtain ⟨⟨w4, w5⟩, ⟨y1, y2, y3, y4, y5⟩, ⟨z1, z2, z3, z4, hwt, hh0, hk34⟩, -, k4⟩ := am_ioN_spec (am_iN_ok _ _ hmem).1.1
            obtain ⟨w2, w3, z6⟩ := k4 (by omega)
            have hcw : am_cw m2 = .code (am_y m2) (am_b m2) (am_mL m2) none := by unfold am_cw; rw [if_neg (by rw [hwt]; decide), z6]
            have hM := am_met (d := d) (ba := ba) IH hO hrun hwa hwh y3 y1 z2 z1 (by rw [hlas]; rcases z3 with q | q <;> omega) hcs4 (am_iN_ok _ _ hmem).2 (Or.inr hh0)
            have hGI : GoodIn (am_WS ex) (am_cw m2 :: am_WS ex) := am_goodIn hgd (fun w hw => by
              rcases List.mem_cons.mp hw with rfl | hw
              · exact wrd w5
              · exact hw)
            have hlk2 := (hNW s s.heap hEV).2 _ _ hmem
            dsimp only [am_nwM] at hlk2
            have cw := va_cnB (R := R) (args := args) (s := s) (own := am_cn (am_own mt)) (index := ix) (host := RX9) (rm := { frames := d + 6, cells := r.2.2.2.1, slots := r.2.2.2.2, locals := 40 * d + 200 }) (ws := am_cw m2 :: am_WS ex) (am_np m2) hts hGI (by rw [hcw]) rfl rfl hlk2 (by rw [y1]; exact hts _ (wrd w4)) ⟨y4, y5, y2⟩ ⟨by show d + 6 + 1 ≤ _; omega, by show 8 + (am_mL m2 + 11) + (40 * d + 200) ≤ _; omega⟩
            exact vx_runIN (As := (st.take (am_np m2)).reverse.map (am_v ba sx)) (b := ba i) CF hM ⟨cw, w3, hts _ (wrd w2)⟩ ⟨hbl, hpr2⟩ rfl (by rw [List.length_map, List.length_reverse]; exact hl3) hls hst9 (lv_room (by rw [am_cs_map]; exact hcs3)) hd ⟨hc, hs⟩
        next => cases hcall
      next => cases hcall
    next => cases hcall
  next => cases hcall
end AMF
