/-! THE CLAIM OUT OF ONE WALK OF THE LAW'S BODY. Your part is whole_start (and what it stands on); all else here is the same for every law, but numbers. -/
def R_law : String := "TrollBridgesLaw"
def lw_P (b : Addr) (xs : List Int32) (args : Array Value) (s : State) : Prop := args = #[.ref b] ∧ s.IntsAt b xs ∧ xs.length ≤ 260 ∧ (Jvm.Cond.and given_1 narrow_1).before args s = true
def lw_Q (_ : Array Value) (s : State) (o : Outcome) (t : State) : Prop := o = .returned (some (.int 1)) ∧ Framed s o t [] 973631 6172204
def lw_Z (below : List Frame) (a : Array Value) (s : State) : State → Prop := fun t => ∃ o, t.status = .running ∧ Ended t below o ∧ lw_Q a s o t
/-- the law's own end, with 1 on the stack, nothing written that was there before, its room as the claim has it -/
theorem lw_ret {p : Program} {l : Launch} {e : Env} {s : State} {m : MethodId} {below : List Frame} {meth : Method} {c : Code} {b : Nat} (hx : p.tables.exec = Jvm.exec) (hb : c.code = code) (hr : meth.sig.returnType = ret) (hlocks : meth.locks = false) {pc : Nat} {H : Heap} {ls : Array Slot} (hdg : decode code pc = .ok (.ireturn, 1)) : W p l e room_1 s m #[Value.ref b] below meth c H [] 973631 6172204 (lw_Z below #[Value.ref b] s) (F0 m pc ls [.int 1]) := by
  intro T hT X
  obtain ⟨fs, hret, hrun, hended, hW, hframe⟩ := X.leave (v := some (.int 1)) (hlocks := hlocks) (fun h => by rw [hr] at h; cases h)
  have hmeth' : T.vm.method? m = some meth := X.method'
  refine ⟨T.setFrames fs, ?_, .returned (some (.int 1)), hrun, hended, rfl, ⟨_, rfl⟩, hW, hframe⟩
  jvm_step X.here [X.here.top, hx, hb, hdg, hmeth', hr, ret, narrow_b1]
  (try refine ⟨rfl, ?_⟩); (try refine ⟨rfl, ?_⟩)
  first | (intro acts; rw [hret _ acts rfl rfl rfl]) | rw [hret _ _ rfl rfl rfl]
  exact Steps.refl _
/-- what holds at the law's entry: the machine, the code, the tables' words (any of lw_tbl by 'hts w (by decide +kernel)'), the script of L ints xs at the cell b, what the Statement gives of the start (any of its parts by flat_of_before) -/
def lw_At (p : Program) (s : State) (m : MethodId) (meth : Method) (c : Code) (b L : Nat) (xs : Nat → Int32) : Prop :=
  p.tables.exec = Jvm.exec ∧ c.code = code ∧ meth.sig.returnType = ret ∧ c.maxLocals = 5 ∧ s.vm.findClass R_law = some m.cls ∧ (∀ w ∈ lw_tbl, w.before #[Value.ref b] s = true) ∧ va_X b L xs s s.heap ∧ b < s.heap.size ∧ meth.locks = false ∧ (Jvm.Cond.and given_1 narrow_1).before #[Value.ref b] s = true ∧ c.exceptionTable.toList = [] ∧ meth.name = x.name
-- ===== YOUR PART BEGINS =====
/-! the start's tables: classes, rows, the words of all methods -/
theorem ws_l0 : ∀ w ∈ wsX00, w ∈ lw_tbl := by decide +kernel
theorem ws_l1 : ∀ w ∈ wsX10, w ∈ lw_tbl := by decide +kernel
theorem ws_l2 : ∀ w ∈ wsX20, w ∈ lw_tbl := by decide +kernel
theorem ws_l3 : ∀ w ∈ wsX30, w ∈ lw_tbl := by decide +kernel
theorem ws_l4 : ∀ w ∈ wsX40, w ∈ lw_tbl := by decide +kernel
theorem ws_l5 : ∀ w ∈ wsX50, w ∈ lw_tbl := by decide +kernel
theorem ws_l6 : ∀ w ∈ wsX60, w ∈ lw_tbl := by decide +kernel
theorem ws_l7 : ∀ w ∈ wsX70, w ∈ lw_tbl := by decide +kernel
theorem ws_l8 : ∀ w ∈ wsX80, w ∈ lw_tbl := by decide +kernel
theorem ws_l9 : ∀ w ∈ wsX90, w ∈ lw_tbl := by decide +kernel
theorem ws_l10 : ∀ w ∈ wsX100, w ∈ lw_tbl := by decide +kernel
theorem ws_lay : ∀ w ∈ am_lay, w ∈ lw_tbl := by
  intro w hw
  unfold am_lay at hw
  rcases List.mem_append.mp hw with hw | hw
  · exact ws_l0 w hw
  rcases List.mem_append.mp hw with hw | hw
  · exact ws_l1 w hw
  rcases List.mem_append.mp hw with hw | hw
  · exact ws_l2 w hw
  rcases List.mem_append.mp hw with hw | hw
  · exact ws_l3 w hw
  rcases List.mem_append.mp hw with hw | hw
  · exact ws_l4 w hw
  rcases List.mem_append.mp hw with hw | hw
  · exact ws_l5 w hw
  rcases List.mem_append.mp hw with hw | hw
  · exact ws_l6 w hw
  rcases List.mem_append.mp hw with hw | hw
  · exact ws_l7 w hw
  rcases List.mem_append.mp hw with hw | hw
  · exact ws_l8 w hw
  rcases List.mem_append.mp hw with hw | hw
  · exact ws_l9 w hw
  exact ws_l10 w hw
theorem ws_all {s : State} {A0 : Array Value} (hT : ∀ w ∈ lw_tbl, w.before A0 s = true) : ∀ w ∈ am_WS jsW, w.before A0 s = true := by
  intro w hw
  rcases List.mem_append.mp hw with h | h
  · obtain ⟨k, -, h⟩ := List.mem_flatMap.mp h
    exact hT _ (am_Wc_in k w h)
  · rcases List.mem_append.mp h with h | h
    · exact hT _ (ws_lay w h)
    · exact js_all hT w h
theorem ws_good : ∀ w ∈ am_WS jsW, goodWord w = true := by
  have h1 : am_lay.all goodWord = true := by decide +kernel
  have h2 : ((List.range 63).flatMap am_Wc).all goodWord = true := by decide +kernel
  intro w hw
  rcases List.mem_append.mp hw with h | h
  · exact List.all_eq_true.mp h2 w h
  · rcases List.mem_append.mp h with h | h
    · exact List.all_eq_true.mp h1 w h
    · exact js_gd w h
theorem ws_inst : ∀ i, i < 10 → Cond.instantiable (am_cn i) (am_N i) ∈ lw_tbl := by decide +kernel
theorem ws_D {s : State} {A0 : Array Value} (hts : ∀ w ∈ lw_tbl, w.before A0 s = true) : ∃ D : va_G, ∀ (c : Nat) (q : vw_C), am_cl[c]? = some q → u_Kn s q.1 q.2.1 q.2.2 (D.1 c) (D.2 c) := by
  have h : ∀ c : Nat, ∃ z : ClassId × (Nat → Nat), ∀ q : vw_C, am_cl[c]? = some q → u_Kn s q.1 q.2.1 q.2.2 z.1 z.2 := by
    intro c
    by_cases hc : c < 10
    · obtain ⟨cC, iS, hk⟩ := u_known (C := am_cn c) (T := am_TX c) (N := am_N c) (n := am_N c) (ws_all hts) (fun w hw => am_WS_lay (by omega) w hw) (hts _ (ws_inst c hc))
      refine ⟨(cC, iS), fun q hq => ?_⟩
      rw [am_cl_at (by omega)] at hq
      cases hq
      exact hk
    · by_cases h10 : c = 10
      · subst h10
        obtain ⟨cC, iS, hk⟩ := u_known (C := RX9) (T := TX10) (N := 0) (n := 11) (ws_all hts) (fun w hw => absurd (show w ∈ ([] : List Cond) from hw) List.not_mem_nil) (hts (.instantiable RX9 11) (ws_inst 9 (by decide)))
        refine ⟨(cC, iS), fun q hq => ?_⟩
        cases hq
        exact hk
      · exact ⟨(0, fun _ => 0), fun q hq => absurd (show c < 11 from (List.getElem?_eq_some_iff.mp hq).1) (by omega)⟩
  obtain ⟨f, hf⟩ := Classical.axiomOfChoice h
  exact ⟨(fun c => (f c).1, fun c => (f c).2), fun c q hq => hf c q hq⟩
theorem ws_K {s : State} {A0 : Array Value} (hts : ∀ w ∈ lw_tbl, w.before A0 s = true) : ∃ (D : va_G) (cT : Nat → ClassId), va_K D am_cl (am_tys cT) s := by
  obtain ⟨D, hD⟩ := ws_D hts
  obtain ⟨c0, k, comp, h1, h2, h3⟩ := Cond.arrayClass_spec (hts (.arrayClass .int) (am_tb_in 3 _ (List.mem_of_getElem? (i := 210) (by decide +kernel))))
  refine ⟨D, fun _ => c0, hD, fun k9 q hq => ?_⟩
  match k9, hq with
  | 0, hq => cases hq; exact ⟨fun n z => ⟨fun k h => (by cases h), k, h2, comp, h3⟩, h1⟩
  | k9 + 1, hq => simp at hq
theorem ws_new {A B : State} {L : List Loc} {k n : Nat} (h : A.sameButNew B L k n) (hL : ∀ z ∈ L, A.heap.size ≤ z.base) : A.sameButNew B [] k n := by
  obtain ⟨h1, h2, h3, h4, h5, h6⟩ := h
  refine ⟨h1, h2, h3, h4, h5, fun a c hc => ?_⟩
  obtain ⟨c', q1, q2, q3, q4⟩ := h6 a c hc
  have ha : a < A.heap.size := (Array.getElem?_eq_some_iff.mp hc).1
  exact ⟨c', q1, q2, q3, fun i _ => q4 i (fun hm => absurd (show A.heap.size ≤ a from hL _ hm) (Nat.not_le.mpr ha))⟩
theorem ws_fl : flags0.contains noTraceFlag = true := by decide +kernel
theorem ws_zip : ∀ i, i < 13 → (am_sk.zip am_sx)[i]?.map (fun q => q.2) = am_sx[i]? := by decide +kernel
theorem ws_tq : ∀ (i : Nat) (t : String), am_sx[i]? = some t → ∃ q, (am_sk.zip am_sx)[i]? = some q ∧ q.2 = t := by
  intro i t h
  have hi : i < 13 := (List.getElem?_eq_some_iff.mp h).1
  have hz := ws_zip i hi
  rw [h] at hz
  cases hq : (am_sk.zip am_sx)[i]? with
  | none => rw [hq] at hz; cases hz
  | some q => rw [hq] at hz; exact ⟨q, rfl, Option.some.inj hz⟩
/-- from the entry, for every script of at most 260 ints, the law comes to its end with true -/
theorem whole_start {p : Program} {e : Env} {s : State} {m : MethodId} {below : List Frame} {meth : Method} {c : Code} (l : Launch) (hflags : l.flags = flags0) {b L : Nat} {xs : Nat → Int32} (hL : L ≤ 260) (C0 : lw_At p s m meth c b L xs) : W p l e room_1 s m #[Value.ref b] below meth c s.heap [] 0 0 (lw_Z below #[Value.ref b] s) (entryFrame m ([Value.ref b] : List Value).toArray 5) := by
  obtain ⟨hx, hb, hr, hml, hown, hts, hX, hbl, hlocks, hgv, htb, hnm⟩ := id C0
  have hF : ev_F s := ⟨#[.ref b], hts, fun w hw => flat_of_before _ hgv w hw⟩
  have hA0 : ∀ a : Nat, a < s.heap.size → ¬ s.heap.size ≤ a := fun a h => Nat.not_le.mpr h
  have hB : ev_B s (fun q => s.heap.size ≤ q) (ev_E s) := ⟨hA0, fun _ _ h => h⟩
  have hm : am_EVm (fun q => s.heap.size ≤ q) (ev_E s) := ev_m s hA0
  obtain ⟨sx, adV, hs0, hS0⟩ := ev_sx hF hA0 b
  obtain ⟨D, cT, hK⟩ := ws_K hts
  have hl : l.stackTraces = false := by
    unfold Launch.stackTraces
    rw [hflags, ws_fl]
    rfl
  have hsk : ∀ (i : Nat) (ty : String), (fun i : Nat => am_sx[i]?) i = some ty → ss_K (fun q => s.heap.size ≤ q) (ev_E s) ty (sx (i + 1)) := by
    intro i ty h
    obtain ⟨q, hq, rfl⟩ := ws_tq i ty h
    obtain ⟨a1, -, a3⟩ := ev_ln q (List.mem_append_left _ (List.mem_of_getElem? hq))
    exact ⟨⟨a1, a3⟩, adV i, fun U H hE => (hS0 i q hq).2.at hB hE⟩
  have hO : am_Out l D cT (fun q => s.heap.size ≤ q) sx (fun i : Nat => am_sx[i]?) L xs jsW (ev_E s) :=
    ⟨⟨ss_L ws_good hm (ss_Bo hF hB) hsk, ss_C ws_good hm (ss_Bo hF hB) hsk⟩, ⟨ev_strR hB hS0, ev_nw hF hB⟩, ⟨hm, th_R hF hB hl⟩, ev_x hF hB, hl, s, hF, hB⟩
  obtain ⟨n, r, hrun, q1, q2, q3, q4⟩ := law_run (L := L) (xs := xs) (tx := fun i => am_sx[i]?) (fun i t h => h) (by omega)
  have hEs : ev_E s s s.heap := ⟨State.WarmedH.refl s, fun _ _ => rfl⟩
  have F : am_FF D cT (fun q => s.heap.size ≤ q) sx L xs jsW (ev_E s) p room_1 s m #[Value.ref b] meth c am_m_L_law 26 :=
    ⟨⟨hx, hb, hr, hml, hown, hlocks, htb, hnm⟩, ⟨ws_all hts, hK, by rw [hs0]; exact hX, ⟨by rw [hs0]; exact hbl, by rw [hs0]; exact hA0 b hbl⟩, fun q h => h, hEs⟩, ⟨am_d_L_law, by decide, by decide, by decide, by decide⟩⟩
  have hlh := am_lh_ini (ba := fun _ => 0) (sx := sx) (as := [.retAddr 0]) (n := 5) (by decide) rfl
  have hv : List.map (am_v (fun _ => 0) sx) [.retAddr 0] = [Value.ref b] := by
    rw [← hs0]
    rfl
  rw [hv] at hlh
  have hWd : am_Wd D cT (fun _ => 0) sx (fun q => s.heap.size ≤ q) (ks_0, az_G sa_0, bz_g, bz_d) s.heap := ⟨fun k q hq => by simp [am_w, ks_0] at hq, fun i j hi => absurd hi (Nat.not_lt_zero _), fun i hi => absurd hi (Nat.not_lt_zero _)⟩
  have k := am_sim_all (l := l) (D := D) (cT := cT) (L := L) (xs := xs) ws_good (mc_R ws_good) n hO (e := e) (below := below) (cells := 0) (slots := 0) (mc := 973631) (ms := 6172204) (st := []) F hlh ⟨am_wl_ini (am_wt_c.mpr ⟨trivial, fun v hv => absurd hv List.not_mem_nil⟩), fun v hv => absurd hv List.not_mem_nil, (fun i cj fs h9 => by simp [ks_0] at h9)⟩ hWd va_S.rf hrun (by omega) (by omega) (Nat.le_refl _) (Nat.le_refl _)
  rw [lg_entry_eq]
  intro T hT X
  obtain ⟨t, a1, o, b1, b2, h9⟩ := k T hT X
  refine ⟨t, a1, o, b1, b2, ?_⟩
  rcases h9 with ⟨⟨v, ba2, z1, zb, z2, z3, z4⟩, J, ⟨y1, y2, y3⟩, hJ⟩ | ⟨q, h8, E, ce, J, hXc, -⟩
  · rw [q1] at z1
    cases z1
    exact ⟨z2, y1, y2, ws_new y3 (fun z hz => hJ z hz)⟩
  · obtain ⟨i, ba2, -, z1, -⟩ := hXc
    rw [q1] at z1
    cases z1
-- ===== YOUR PART ENDS =====
set_option maxHeartbeats 4000000 in
theorem lw_walk (l : Launch) (hflags : l.flags = flags0) (b : Addr) (xs : List Int32) : MetFree l x (headSpec (Jvm.Cond.code x code maxLocals ret :: tables_1) room_1) (lw_P b xs) (fun _ _ _ _ _ => True) lw_Q := by
  refine MetFree.of_bodyS (code := code) (maxLocals := maxLocals) (ret := ret) (by decide) ?_ ?_
  · intro args s m h hn
    obtain ⟨meth, c, h1, h2, h3, h4, h5, h6, -, -⟩ := Cond.code_spec hn (atoms_spec (ws := Jvm.Cond.code x code maxLocals ret :: tables_1) h _ List.mem_cons_self)
    exact ⟨meth, c, h1, h2, h3, h4, h5, h6⟩
  · intro p e s m args below meth c s₁ B hml0 hP _
    obtain ⟨rfl, hx, hbd, hgv⟩ := hP
    obtain ⟨scr, harrAt, hlist, hof, hsmall⟩ := hx
    obtain ⟨hcb, hkn, -, -⟩ := State.arrayAt?_spec harrAt
    have hown : s.vm.findClass R_law = some m.cls := findClass_of_methodNamed B.named
    have hts0 : ∀ c ∈ (Jvm.Cond.code x code maxLocals ret :: tables_1), c.before #[Value.ref b] s = true := atoms_spec (ws := Jvm.Cond.code x code maxLocals ret :: tables_1) B.pre
    have hts : ∀ w ∈ lw_tbl, w.before #[Value.ref b] s = true := k2_hts_sels lw_privs (fun w hw => hts0 w (List.mem_cons_of_mem _ hw)) lw_privs_ok
    have hml : c.maxLocals = 5 := B.maxLocals_eq (hts0 _ List.mem_cons_self)
    have htb0 : c.exceptionTable.toList = [] := by
      obtain ⟨meth9, c9, h1, h2, -, -, -, -, h7, -⟩ := Cond.code_spec B.named (hts0 _ List.mem_cons_self)
      cases Option.some.inj (h1.symm.trans B.method)
      cases Option.some.inj (h2.symm.trans (Stand.of_body B).code)
      rw [Array.isEmpty_iff.mp h7]
    have X₀ : Stand p l e room_1 s m #[Value.ref b] below meth c s₁ [] 0 0 := Stand.of_body B
    have hh0 : s₁.heap = s.heap := by rw [B.state]; rfl
    have hsz : scr.slots.size = xs.length := by rw [← Array.length_toList, hlist, List.length_map]
    have hval : ∀ j : Nat, j < xs.length → scr.slots[j]? = some (.int (xs.getD j 0)) := fun j hj => by
      rw [← Array.getElem?_toList, hlist]
      simp [hj]
    have hbl : b < s.heap.size := (Array.getElem?_eq_some_iff.mp hcb).1
    have hX : va_X b xs.length (fun j => xs.getD j 0) s s.heap := ⟨scr, hcb, hof, hkn, hsz, hval⟩
    have K : W p l e room_1 s m #[Value.ref b] below meth c s₁.heap [] 0 0 (lw_Z below #[Value.ref b] s) (entryFrame m ([Value.ref b] : List Value).toArray 5) := by
      rw [hh0]
      exact whole_start l hflags hbd ⟨B.exec, B.bytes, B.returns, hml, hown, hts, hX, hbl, B.notSynchronized, hgv, htb0, (name_of_methodNamed B.named B.method).1⟩
    obtain ⟨t, a1, o, b1, b2, b3⟩ := K s₁ rfl X₀
    exact ⟨t, o, a1, b1, b2, b3⟩
theorem lw_pre_spec {args : Array Value} {s : State} (h : (Jvm.Cond.and given_1 narrow_1).before args s = true) (hr : rest_1_c.before args s = true) : ∃ (b : Addr) (xs : List Int32), lw_P b xs args s := by
  have hs := flat_of_before _ h
  have hq := flat_of_before _ hr
  have hc : (Cond.count 1).before args s = true := hs _ (by decide +kernel)
  have harr : (Cond.arrayOf (.arg 0) .int).before args s = true := hs _ (by decide +kernel)
  have hle : (Cond.le (.length (.arg 0)) (.int 260)).before args s = true := hs _ (by decide +kernel)
  have hlen : (Cond.isInt (.length (.arg 0))).before args s = true := hq _ (by decide +kernel)
  have hall : (Cond.all (.arg 0) (.isInt (.elem (.arg 0) (.index 0)))).before args s = true := hq _ (by decide +kernel)
  obtain ⟨b, xs, hb, hx⟩ := State.ints_of_pre rfl harr hlen hall
  have hsm : xs.length < 2 ^ 31 := hx.choose_spec.2.2.2
  have hev : (Term.length (.arg 0)).eval args s none [] s = some (.int xs.length.toInt32) := hx.length_eval hb
  have hv := Cond.le_ints hev (show (Term.int 260).eval args s none [] s = some (.int 260) from rfl)
  have hd : xs.length.toInt32 ≤ 260 := by
    simpa [Cond.before, Cond.holds, hv] using hle
  have hN : xs.length ≤ 260 := (Int32.ofNat_le_ofNat hsm (by decide)).mp (show Int32.ofNat xs.length ≤ Int32.ofNat 260 from hd)
  exact ⟨b, xs, Cond.one_arg hc (show args[0]? = some (.ref b) from hb), hx, hN, h⟩
theorem lw_comes (l : Launch) (hflags : l.flags = flags0) : Comes l x (Jvm.Cond.code x code maxLocals ret :: tables_1) room_1 (fun tb e args s => Calls_1 tb e args s ∧ rest_1 tb e args s ∧ Pre_1 tb e args s)
    (fun _ _ args s o t => lw_Q args s o t) := by
  intro p e ha hc hk s m args below hf hfit hheap happ hpre
  obtain ⟨b, xs, hP⟩ := lw_pre_spec hpre.2.2 hpre.2.1
  obtain ⟨k, o, h1, h2, h3, hQ⟩ := lw_walk l hflags b xs p e ha hc hk s m args below hf ((Spec.applies_iff_loose hf).mp happ).1 hP trivial
  exact ⟨k, o, h1, h2, h3, hQ⟩
theorem lw_frame {s t : State} {o : Outcome} {args : Array Value} (h : Framed s o t [] 973631 6172204) :
    Framed s o t (fieldLocs frame_1_writes args s ++ arrayLocs frame_1_arrays args s ++ staticLocs frame_1_statics s) 973631 6172204 := h
theorem lw_limb (L : Cond) (hL : ∀ (args : Array Value) (s t : State), L.after args s (.returned (some (.int 1))) t = true) :
    ArmFor flags0 classFile x code maxLocals ret World_1 tables_1 room_1 Calls_1 rest_1 Pre_1
      (fun tb e a s o t => postC L tb e a s o t ∧ Framed s o t (fieldLocs frame_1_writes a s ++ arrayLocs frame_1_arrays a s ++ staticLocs frame_1_statics s) 973631 6172204) := by
  intro l hflags _ _ p e ha hc hk s m args below hf hfit hheap happ hpre
  obtain ⟨k, o, h1, h2, h3, rfl, hF⟩ := lw_comes l hflags p e ha hc hk s m args below hf hfit hheap happ hpre
  exact ⟨k, _, h1, h2, h3, hL args s _, lw_frame hF⟩
theorem i_vc : Claimed_1_1 ∧ Claimed_1_2 := ⟨lw_limb limb_1_1 (fun args s t => by simp [limb_1_1, Cond.after, Cond.holds, Cond.value]), lw_limb limb_1_2 (fun args s t => Cond.after_iff.mpr (by
  first | (rw [show limb_1_2 = Cond.eq .result (.int 1) from rfl, Cond.eq_ints (x := 1) (y := 1) rfl rfl]; simp; done) | (simp [limb_1_2, Cond.value, Term.eval]; done)))⟩
