/-! THE JVM ANSWERS WHAT THE SMALL MACHINE ANSWERS, 6: every run -/
section AMG
variable {p : Program} {l : Launch} {e : Env} {R : Room} {s : State} {m : MethodId} {args : Array Value} {below : List Frame} {meth : Method} {c : Code} {H : Heap} {locs : List Loc} {cells slots : Nat} {Q : State → Prop}
variable {D : va_G} {cT : Nat → ClassId} {A : Nat → Prop} {ba : Nat → Nat} {sx : Nat → Nat} {tq : Nat → Option String} {L : Nat} {xs : Nat → Int32} {ex : List Cond} {EV : State → Heap → Prop} {mt : am_M1} {d pc : Nat} {ls : Array Slot}
theorem am_pass (hX : am_exR EV) (hEV : EV s s.heap) (ho : am_own mt < 12) (hts : ∀ w ∈ am_WS ex, w.before args s = true) {E : Nat} (hE0 : 0 < E) (hE : E < 6) {z : Nat × Nat × Nat × Nat} (h : (¬ (z.1 ≤ pc ∧ pc < z.2.1)) ∨ ∃ E2 p, am_find z.2.2.2 (am_qT (am_own mt)) = some (E2, p) ∧ E2 ≠ E) :
    covers (⟨z.1, z.2.1, z.2.2.1, z.2.2.2⟩ : ExceptionTableEntry) pc = false ∨ (z.2.2.2 ≠ 0 ∧ ∃ nm : String, (Cond.classLink (am_cn (am_own mt)) z.2.2.2 nm).before args s = true ∧ va_Nc (am_en E) nm s) := by
  rcases h with h | ⟨E2, p9, hf, hne⟩
  · left
    unfold covers
    simp only [Bool.and_eq_false_iff, decide_eq_false_iff_not]
    by_cases hq : z.1 ≤ pc
    · exact Or.inr (fun q => h ⟨hq, q⟩)
    · exact Or.inl hq
  · right
    obtain ⟨w1, w2⟩ := am_qT_ok _ ho _ (am_find_mem hf)
    have w3 := am_qT_nz _ ho _ (am_find_mem hf)
    exact ⟨w3, am_en E2, hts _ (am_WS_at w1), hX.2 s s.heap hEV E E2 hE0 hE (Nat.pos_of_ne_zero (am_qT_e0 _ ho _ (am_find_mem hf))) w2 (Ne.symm hne)⟩
/-- acts puts a text together: from its first row behind the object to the call of does, where the text lies outside of a smaller world -/
def am_macR (l : Launch) (D : va_G) (cT : Nat → ClassId) (L : Nat) (xs : Nat → Int32) (ex : List Cond) : Prop :=
  ∀ {A : Nat → Prop} {sx : Nat → Nat} {tq : Nat → Option String} {EV : State → Heap → Prop} (_ : am_Out l D cT A sx tq L xs ex EV) {p : Program} {e : Env} {R : Room} {s : State} {m : MethodId} {args : Array Value} {below : List Frame} {meth : Method} {c : Code} {H : Heap} {locs : List Loc} {cells slots : Nat} {mt : am_M1} {d i : Nat} {a b c9 : Int32} {lv : am_L} {h : am_H} {ls : Array Slot} {ba : Nat → Nat} {Q : State → Prop},
    am_FF D cT A sx L xs ex EV p R s m args meth c mt d → am_lh ba sx ls (am_mL mt) lv → am_wh h.1 → i < h.1.length → am_Wd D cT ba sx A h H → va_S A s.heap H locs → am_mac mt 283 lv [.ref i] = some (i, a, b, c9) → 12 ≤ d → cells + 24 ≤ R.cells → slots + 4000 ≤ R.slots →
    (∀ (A1 : Nat → Prop) (sx1 : Nat → Nat) (EV1 : State → Heap → Prop) (H1 : Heap) (locs1 : List Loc), am_Out l D cT A1 sx1 (am_txu tq (am_text a.toNatClampNeg b.toNatClampNeg c9.toNatClampNeg)) L xs ex EV1 → sx1 0 = sx 0 → (∀ q, A1 q → A q) → (∀ q : Nat, H1.size ≤ q → A1 q) → am_Wd D cT ba sx1 A1 h H1 → va_S A s.heap H1 locs1 → (∀ U : State, U.heap = H1 → s.WarmedH U.vm → EV1 U H1) →
      W p l e R s m args below meth c H1 locs1 (cells + 24) (slots + 4000) Q (F0 m 430 ls [.ref (sx1 1000), .ref (ba i)])) →
    W p l e R s m args below meth c H locs cells slots Q (F0 m 283 ls [.ref (ba i)])
set_option maxRecDepth 100000 in
/-- the text's place, and behind it the call of does -/
theorem am_mac_W {n : Nat} (IH : am_Sim l D cT L xs ex n) (hO : am_Out l D cT A sx tq L xs ex EV) (hgd : ∀ w ∈ am_WS ex, goodWord w = true) (hMAC : am_macR l D cT L xs ex) {i : Nat} {a b c9 v : Int32} {lv : am_L} {h h2 : am_H} {ph ph2 : Bool} {c2 s2 mc ms : Nat} (F : am_FF D cT A sx L xs ex EV p R s m args meth c mt (d + 1)) (hl : am_lh ba sx ls (am_mL mt) lv) (hw : am_wl h.1.length lv ∧ am_wt1 h.1.length [.ref i] ∧ am_wh h.1) (hW : am_Wd D cT ba sx A h H) (hS : va_S A s.heap H locs) (hm : am_mac mt 283 lv [.ref i] = some (i, a, b, c9)) (hd12 : 12 ≤ d) (hrun : am_run L xs n (am_txu tq (am_text a.toNatClampNeg b.toNatClampNeg c9.toNatClampNeg)) d am_m_L_does 0 (am_ini (am_mL am_m_L_does) [.ref i, .retAddr 1000]) [] h ph = some (.inl (some (.int v)), h2, ph2, c2, s2)) (hc : cells + (c2 + 24) ≤ mc) (hs : slots + (s2 + 4000) ≤ ms) (hcR : mc ≤ R.cells) (hsR : ms ≤ R.slots) :
    W p l e R s m args below meth c H locs cells slots (vx_MQ below (am_Qc D cT A ba sx h.1.length (.inl (some (.int v)), h2, ph2, c2 + 24, s2 + 4000)) (am_Xc D cT A ba sx h.1.length (.inl (some (.int v)), h2, ph2, c2 + 24, s2 + 4000)) args s mc ms A) (F0 m 283 ls (List.map (am_v ba sx) [.ref i])) := by
  obtain ⟨hwl, hwt, hwh⟩ := hw
  obtain ⟨⟨o1, o2, o3, o4⟩, -, -, -⟩ := am_mac_w hm
  have hi : i < h.1.length := (am_wt_c.mp hwt).1
  refine hMAC hO F hl hwh hi hW hS hm (by omega) (by omega) (by omega) (fun A1 sx1 EV1 H1 locs1 hO1 e0 hAA hA1 hW1 hS1 hE1 => ?_)
  have hev1 : am_EVm A1 EV1 := hO1.2.2.1.1
  obtain ⟨⟨hx, hb, hr, hml, hown, hlk, htb, hnm⟩, ⟨hts, hK, hX, ⟨hbl, hbA⟩, hA, hEV⟩, ⟨hdec, ho, hmL, hfr, hlc⟩⟩ := F
  have wrd : ∀ {pl : Nat} {w : Cond}, am_at pl = some w → w ∈ am_WS ex := fun hp => am_WS_at hp
  rw [o1] at hown
  have CF : CallFix p m c (am_b am_m_L_acts) (am_mL mt) s args (am_WS ex) (am_cn 11) := ⟨hx, by rw [hb, o2], hml, hown, hts⟩
  obtain ⟨p1, p2, p3, p4, p5, hmem⟩ : ∃ p1 p2 p3 p4 p5, (190, 1, am_m_L_does, p1, p2, p3, p4, p5) ∈ am_iT 11 := ⟨_, _, _, _, _, am_find_mem (k := 190) (l := am_iT 11) rfl⟩
  obtain ⟨⟨w1, w4, w5⟩, ⟨y1, y2, y3, y4, y5⟩, ⟨z1, z2, z3, z4, z5⟩, -, k1, -, hhh⟩ := am_io_spec (am_iT_ok _ _ hmem)
  have w2 := k1 rfl
  have hM := am_met (d := d) (ba := ba) IH hO1 hrun (am_wt_c.mpr ⟨hi, am_wt_c.mpr ⟨trivial, fun v hv => absurd hv List.not_mem_nil⟩⟩) hwh y3 y1 z2 z1 (show (2 : Nat) ≤ 4 by decide) rfl (am_iT_dec _ _ hmem) hhh
  have hcw : am_cw am_m_L_does = .code (am_y am_m_L_does) (am_b am_m_L_does) (am_mL am_m_L_does) (am_rt am_m_L_does) := rfl
  have hGI : GoodIn (am_WS ex) (am_cw am_m_L_does :: am_WS ex) := am_goodIn hgd (fun w hw => by
    rcases List.mem_cons.mp hw with rfl | hw
    · exact wrd w5
    · exact hw)
  have cw := callB_of (R := R) (args := args) (s := s) (own := am_cn 11) (index := 190) (rm := { frames := d + 6, cells := c2, slots := s2, locals := 40 * d + 200 }) (ws := am_cw am_m_L_does :: am_WS ex) (am_np am_m_L_does) hts hGI (by rw [hcw]) rfl rfl (by rw [y1]; exact hts _ (wrd w4)) (hts _ (wrd w1)) ⟨y4, y5, y2⟩ ⟨by show d + 6 + 1 ≤ _; omega, by show 8 + (am_mL am_m_L_does + 11) + (40 * d + 200) ≤ _; omega⟩
  have hbl1 : sx 0 < H1.size := Nat.lt_of_lt_of_le hbl hS1.1
  have hv := vx_runS (e := e) (below := below) (meth := meth) (locs := locs1) (cells := cells + 24) (slots := slots + 4000) (g := F0 m 430 ls [.ref (sx1 1000), .ref (ba i)]) (rest := []) (H := H1) (As := [.ref (ba i), .ref (sx1 1000)]) CF hM ⟨cw, hts _ (wrd w2)⟩ ⟨fun a9 U g mk q => by
      obtain ⟨q1, q2, q3, q4, q5, q7, q6⟩ := q
      exact ⟨q1, q2, va_K.moved (u := U) (U := U.calling g mk a9) (Vm.Alike.refl U.vm) q3, va_X.moved (u := U) (U := U.calling g mk a9) (Vm.Alike.refl U.vm) q4, q5, q7, hev1.1 U (U.calling g mk a9) _ (State.WarmedH.refl U) q6⟩, fun U hU hWm => by
      refine ⟨rfl, by rw [hU]; exact hW1, va_K.moved hWm.alike hK, ?_, ⟨by rw [hU, e0]; exact hbl1, fun q => hbA (by rw [← e0]; exact hAA _ q)⟩, by rw [hU]; exact hA1, by rw [hU]; exact hE1 U hU hWm⟩
      rw [hU, e0]
      exact va_X.moved hWm.alike (hX.kept (hS1.2.1 (sx 0) hbl hbA))⟩ rfl rfl hl.1 rfl (lv_room (Nat.zero_le _)) (show decode (am_b am_m_L_acts) 430 = .ok (.invokestatic 190, 3) from (am_d_L_acts _ (am_find_mem (k := 430) (l := am_c am_m_L_acts) rfl)).1) ⟨by show cells + 24 + c2 ≤ _; omega, by show slots + 4000 + s2 ≤ _; omega⟩
  refine am_callG hv hS1 hAA (fun v9 ba2 H2 locs2 e9 hb2 hW2 hS2 => ?_) (fun j ba2 ce q9 H2 locs2 hj0 hj e9 => by cases e9)
  cases e9
  obtain ⟨y6, y7, y8⟩ := am_run_w _ _ _ _ _ _ _ _ _ _ hrun (am_wl_ini (am_wt_c.mpr ⟨hi, am_wt_c.mpr ⟨trivial, fun v hv => absurd hv List.not_mem_nil⟩⟩)) (fun v hv => absurd hv List.not_mem_nil) hwh
  refine W.widen (by show cells + 24 + c2 ≤ mc; omega) (by show slots + 4000 + s2 ≤ ms; omega) (vx_ret ?_)
  refine W.zret hx (by rw [hb, o2]) (hr.trans o4) rfl (fun t ht _ => ⟨some (.int v), ba2, rfl, hb2, rfl, ?_, hS2.F ht⟩) hS2.2.2 (show decode (am_b am_m_L_acts) 433 = .ok (.ireturn, 1) from (am_d_L_acts _ (am_find_mem (k := 433) (l := am_c am_m_L_acts) rfl)).1) hlk
  rw [ht]
  refine ⟨?_, hW2.2.1, fun j hj => hAA _ (hW2.2.2 j hj)⟩
  rw [am_w_ext (sx := sx1) (sx2 := sx) (ba2 := ba2) (ba := ba2) y7 (fun _ _ => rfl)]
  exact hW2.1
theorem am_sim_all (hgd : ∀ w ∈ am_WS ex, goodWord w = true) (hMAC : am_macR l D cT L xs ex) : ∀ n : Nat, am_Sim l D cT L xs ex n := by
  intro n
  induction n with
  | zero =>
    intro A sx tq EV hO p e R s m args below meth c H locs cells slots mt d pc mc ms lv st h ph r ls ba F hl hw hW hS hrun
    exact absurd hrun (by simp [am_run])
  | succ n IH =>
    intro A sx tq EV hO p e R s m args below meth c H locs cells slots mt d pc mc ms lv st h ph r ls ba F hl hw hW hS hrun hc hs hcR hsR
    have F0' := F
    obtain ⟨⟨hSL, hSC⟩, ⟨hSR, hNW⟩, ⟨hev, hTR⟩, hXR, hBS⟩ := id hO
    obtain ⟨hwl, hwt, hwh⟩ := hw
    obtain ⟨⟨hx, hb, hr, hml, hown, hlk, htb, hnm⟩, ⟨hts, hK, hX, hsx, hbs, hEV⟩, ⟨hdec, ho, hmL, hfr, hlc⟩⟩ := F
    unfold am_run at hrun
    cases hf : am_find pc (am_c mt) with
    | none => rw [hf] at hrun; cases hrun
    | some q =>
      obtain ⟨ins, len⟩ := q
      rw [hf] at hrun
      dsimp only at hrun
      obtain ⟨hd, hlo⟩ := hdec _ (am_find_mem hf)
      dsimp only at hd hlo
      cases h1 : am_simple ins len pc lv st with
      | some q =>
        obtain ⟨pc2, lv2, st2⟩ := q
        rw [h1] at hrun
        dsimp only at hrun
        obtain ⟨w1, w2⟩ := am_simple_w h1 hwl hwt
        exact am_simple_W hx hb hd hlo hl h1 (fun ls2 hl2 => IH hO F0' hl2 ⟨w1, w2, hwh⟩ hW hS hrun hc hs hcR hsR)
      | none =>
        rw [h1] at hrun
        dsimp only at hrun
        cases h2 : am_heap L xs tq mt ins st h ph with
        | some q =>
          obtain ⟨st2, h2', ph2, c2, s2⟩ := q
          rw [h2] at hrun
          dsimp only at hrun
          obtain ⟨r0, hr0, rfl⟩ := am_map_some hrun
          simp only [am_add] at hc hs
          obtain ⟨w1, w2, w3⟩ := am_heap_w h2 hwt hwh
          refine am_heap_W hSL hSC hSR hNW F0' hl.1 hd hlo hW hwt hwh hS h2 (by omega) (by omega) (fun ba2 H1 locs1 hb2 hW1 hS1 => ?_)
          refine am_W_mono (IH hO (r := r0) F0' (am_lh_ext hwl hb2 hl) ⟨am_wl_up w3 hwl, w1, w2⟩ hW1 hS1 hr0 (by omega) (by omega) hcR hsR) (am_MQ_mono (fun _ _ _ => am_Qc_back w3 hb2 rfl rfl) (fun _ _ _ => am_Xc_back w3 hb2 rfl rfl))
        | none =>
          rw [h2] at hrun
          dsimp only at hrun
          cases h3 : am_call mt ins st h with
          | some q =>
            obtain ⟨m2, as, rest⟩ := q
            rw [h3] at hrun
            dsimp only at hrun
            cases d with
            | zero => cases hrun
            | succ d2 =>
              dsimp only at hrun
              cases h4 : am_run L xs n tq d2 m2 0 (am_ini (am_mL m2) as) [] h ph with
              | none => rw [h4] at hrun; cases hrun
              | some r2 =>
                rw [h4] at hrun
                obtain ⟨w1, w2⟩ := am_call_w h3 hwt
                have z := am_run_w _ _ _ _ _ _ _ _ _ _ h4 (am_wl_ini w1) (fun v hv => absurd hv List.not_mem_nil) hwh
                obtain ⟨o2, h2', ph2, c2, s2⟩ := r2
                obtain ⟨z1, z2, z3⟩ := z
                dsimp only at z1 z2 z3
                cases o2 with
                | inl v =>
                  dsimp only at hrun
                  obtain ⟨r0, hr0, rfl⟩ := am_map_some hrun
                  simp only [am_add] at hc hs
                  obtain ⟨rfl, a, hv⟩ := am_call_run IH hO hgd F0' hl.1 hd hlo hwt hW hS h3 h4 hwh (by show cells + c2 ≤ _; omega) (by show slots + s2 ≤ _; omega)
                  refine am_callG hv hS (fun _ h => h) (fun v9 ba2 H1 locs1 e9 hb2 hW1 hS1 => ?_) (fun i ba2 ce q9 H1 locs1 hi0 hi e9 => by cases e9)
                  cases e9
                  have k9 := IH hO (r := r0) (e := e) (below := below) (cells := cells + c2) (slots := slots + s2) F0' (am_lh_ext hwl hb2 hl) ⟨am_wl_up z3 hwl, by
                    intro w hw
                    rcases List.mem_append.mp hw with hw | hw
                    · exact z1 w (by rw [Option.mem_toList.mp hw])
                    · exact am_wv_up z3 (w2 w hw), z2⟩ hW1 hS1 hr0 (by omega) (by omega) hcR hsR
                  rw [List.map_append] at k9
                  have e8 : v.toList.map (am_v ba2 sx) = (v.map (am_v ba2 sx)).toList := by cases v <;> rfl
                  rw [e8, am_st_ext (st := rest) w2 hb2] at k9
                  exact am_W_mono k9 (am_MQ_mono (fun _ _ _ => am_Qc_back z3 hb2 rfl rfl) (fun _ _ _ => am_Xc_back z3 hb2 rfl rfl))
                | inr E =>
                  dsimp only at hrun
                  cases h5 : am_hand (am_own mt) pc E (am_hh mt) with
                  | none => rw [h5] at hrun; cases hrun
                  | some o5 =>
                    rw [h5] at hrun
                    have hsp := am_hand_split h5
                    cases o5 with
                    | none =>
                      dsimp only at hrun hsp
                      cases hrun
                      simp only at hc hs
                      obtain ⟨rfl, a, hv⟩ := am_call_run IH hO hgd F0' hl.1 hd hlo hwt hW hS h3 h4 hwh (by show cells + c2 ≤ _; omega) (by show slots + s2 ≤ _; omega)
                      refine am_callG hv hS (fun _ h => h) (fun v9 ba2 H1 locs1 e9 => by cases e9) (fun i ba2 ce q9 H1 locs1 hi0 hi e9 hb2 hW1 hS1 g1 g2 g3 => ?_)
                      cases e9
                      refine vx_outP (own := am_cn (am_own mt)) (E := am_en E) hown hlk (fun z hz => ?_) g1 g2 g3 (fun t ht hal => ⟨E, ba2, ⟨hi0, hi⟩, rfl, hb2, rfl, by rw [ht]; exact hW1, hS1.F ht⟩) hS1.2.2 hc hs
                      rw [htb] at hz
                      obtain ⟨z9, hz9, rfl⟩ := List.mem_map.mp hz
                      exact am_pass hXR hEV ho hts hi0 hi (hsp z9 hz9)
                    | some hp =>
                      dsimp only at hrun hsp
                      cases h6 : am_caught mt hp lv with
                      | none => rw [h6] at hrun; cases hrun
                      | some q6 =>
                        obtain ⟨pc2, lv2⟩ := q6
                        rw [h6] at hrun
                        dsimp only at hrun
                        obtain ⟨r0, hr0, rfl⟩ := am_map_some hrun
                        simp only [am_add] at hc hs
                        obtain ⟨rfl, a, hv⟩ := am_call_run IH hO hgd F0' hl.1 hd hlo hwt hW hS h3 h4 hwh (by show cells + c2 ≤ _; omega) (by show slots + s2 ≤ _; omega)
                        refine am_callG hv hS (fun _ h => h) (fun v9 ba2 H1 locs1 e9 => by cases e9) (fun i ba2 ce q9 H1 locs1 hi0 hi e9 hb2 hW1 hS1 g1 g2 g3 => ?_)
                        cases e9
                        obtain ⟨pre, x, suf, x1, x2, x3, x4, p9, x5⟩ := hsp
                        obtain ⟨w1, w2⟩ := am_qT_ok _ ho _ (am_find_mem x5)
                        have w3 := am_qT_nz _ ho _ (am_find_mem x5)
                        refine vx_catch (own := am_cn (am_own mt)) (name := am_en E) (E := am_en E) hown (pre.map fun q => ⟨q.1, q.2.1, q.2.2.1, q.2.2.2⟩) ⟨x.1, x.2.1, x.2.2.1, x.2.2.2⟩ (suf.map fun q => ⟨q.1, q.2.1, q.2.2.1, q.2.2.2⟩) (by rw [htb, x1]; simp [tableOf]) (fun z hz => ?_) (by unfold covers; simp [x3.1, x3.2]) w3 (hts _ (am_WS_at w1)) (va_Nw.use rfl (hXR.1 s s.heap hEV E hi0 hi)) g1 g2 g3 ?_
                        · obtain ⟨z9, hz9, rfl⟩ := List.mem_map.mp hz
                          exact am_pass hXR hEV ho hts hi0 hi (x2 z9 hz9)
                        · show W p l e R s m args below meth c H1 locs1 (cells + c2) (slots + s2) _ (F0 m x.2.2.1 ls [.ref q9])
                          rw [x4]
                          have hw9 := am_wl_up z3 (am_wl_caught h6 hwl)
                          refine am_W_mono ?_ (am_MQ_mono (fun _ _ _ => am_Qc_back z3 hb2 rfl rfl) (fun _ _ _ => am_Xc_back z3 hb2 rfl rfl))
                          have hl := am_lh_ext hwl hb2 hl
                          unfold am_caught at h6
                          split at h6
                          next i9 ln9 hf9 =>
                            obtain ⟨hd9, hlo9⟩ := hdec _ (am_find_mem hf9)
                            dsimp only at hd9 hlo9
                            simp only [am_lo, beq_iff_eq] at hlo9
                            subst hlo9
                            split at h6
                            next hlt =>
                              cases h6
                              refine lv_astore hx hb hd9 (am_lh_has hl) (by rw [← hl.2.2.1]; exact hlt) rfl (fun ls2 hl2 => ?_)
                              exact IH hO (r := r0) (st := []) F0' (am_lh_kill hl.2.2.1 hl2) ⟨hw9, fun v hv => absurd hv List.not_mem_nil, z2⟩ hW1 hS1 hr0 (by omega) (by omega) hcR hsR
                            next => cases h6
                          next i9 ln9 hf9 =>
                            obtain ⟨hd9, hlo9⟩ := hdec _ (am_find_mem hf9)
                            dsimp only at hd9 hlo9
                            simp only [am_lo, beq_iff_eq] at hlo9
                            subst hlo9
                            split at h6
                            next hlt =>
                              cases h6
                              refine lv_astore_n hx hb hd9 rfl (am_lh_has hl) (by rw [← hl.2.2.1]; exact hlt) rfl (fun ls2 hl2 => ?_)
                              exact IH hO (r := r0) (st := []) F0' (am_lh_kill hl.2.2.1 hl2) ⟨hw9, fun v hv => absurd hv List.not_mem_nil, z2⟩ hW1 hS1 hr0 (by omega) (by omega) hcR hsR
                            next => cases h6
                          next => cases h6
          | none =>
            rw [h3] at hrun
            dsimp only at hrun
            cases h7 : am_ret (am_rt mt) ins st with
            | some v =>
              rw [h7] at hrun
              dsimp only at hrun
              cases hrun
              simp only at hc hs
              exact am_ret_W F0' hd hlo hW hS h7 rfl rfl (by omega) (by omega)
            | none =>
              rw [h7] at hrun
              dsimp only at hrun
              cases h8 : am_thr mt ins pc st with
              | none =>
                rw [h8] at hrun
                dsimp only at hrun
                cases h9 : am_mac mt pc lv st with
                | none => rw [h9] at hrun; cases hrun
                | some q9 =>
                  obtain ⟨i, a, b, c9⟩ := q9
                  rw [h9] at hrun
                  dsimp only at hrun
                  cases d with
                  | zero => cases hrun
                  | succ d2 =>
                    dsimp only at hrun
                    split at hrun
                    next => cases hrun
                    next hd12 =>
                      obtain ⟨⟨o1, o2, o3, o4⟩, rfl, rfl, -⟩ := am_mac_w h9
                      split at hrun
                      next v h2' ph2 c2 s2 h10 =>
                        cases hrun
                        simp only at hc hs
                        exact am_mac_W IH hO hgd hMAC F0' hl ⟨hwl, hwt, hwh⟩ hW hS h9 (by omega) h10 (by omega) (by omega) hcR hsR
                      next => cases hrun
              | some E =>
                rw [h8] at hrun
                dsimp only at hrun
                cases hrun
                simp only at hc hs
                have hcs8 : am_cs st ≤ 8 := by
                  unfold am_thr at h8
                  split at h8
                  next =>
                    split at h8
                    next =>
                      split at h8
                      next hq => exact hq.1.2.2
                      next => cases h8
                    next => cases h8
                  next => cases h8
                refine hTR F0' hl.1 hf h8 (by rw [am_cs_map]; exact hcs8) hS hc hs (by omega) (by omega) (fun t hal hsz hkeep hE6 => ⟨E, ba, hE6, rfl, fun _ _ => rfl, rfl, ⟨?_, hW.2⟩, ?_⟩)
                · exact hW.1.kept (fun k9 q9 hq9 => hkeep q9.1 ((hW.1 k9 q9 hq9).lt))
                · exact ⟨Nat.le_trans hS.1 hsz, fun q h1 h2 => by rw [hkeep q (Nat.lt_of_lt_of_le h1 hS.1)]; exact hS.2.1 q h1 h2⟩
end AMG
