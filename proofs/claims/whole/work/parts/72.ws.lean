/-! THE CLAIM OUT OF ONE WALK OF THE LAW'S BODY. Your part is whole_start (and what it stands on); all else here is the same for every law, but numbers. -/
def R_law : String := "TrollBridgesLaw"
def lw_P (b : Addr) (xs : List Int32) (args : Array Value) (s : State) : Prop := args = #[.ref b] ∧ s.IntsAt b xs ∧ xs.length ≤ 2560 ∧ (Jvm.Cond.and given_1 narrow_1).before args s = true
/-- what a walk over the start with the record d0 says of its end, said of the start itself -/
theorem lw_closed {s t : State} {o : Outcome} {d0 : Drawn} {L : List Loc} {k n : Nat} (hd0 : s.drawn.sameBut d0 lw_cs) (hv : ∃ v, o = .returned v) (hW : (s.setDrawn d0).WarmedH t.vm) (hs : (s.setDrawn d0).sameButNew ({ t with vm := s.vm } : State) L k n) : State.butDraws s t lw_cs (fun t1 => Framed s o t1 L k n) := by
  have h2 : t.drawn = d0 := congrArg State.drawn hs.1
  refine ⟨⟨hv, hW, State.sameButNew.setDrawn hs s.drawn⟩, ?_, by decide⟩
  rw [h2]
  exact hd0
def lw_Q (_ : Array Value) (s : State) (o : Outcome) (t : State) : Prop := o = .returned (some (.int 1)) ∧ State.butDraws s t lw_cs (fun t1 => Framed s o t1 [] 603072 7202922)
def lw_Z (below : List Frame) (a : Array Value) (s : State) : State → Prop := fun t => ∃ o, t.status = .running ∧ Ended t below o ∧ lw_Q a s o t
/-- the law's own end, with 1 on the stack, nothing written that was there before, its room as the claim has it; d0: the record of draws at this point (at the entry s.drawn: begin with 'refine W.base ?_' and 'have hd0 := Drawn.sameBut.refl s.drawn lw_cs') -/
theorem lw_ret {p : Program} {l : Launch} {e : Env} {s : State} {m : MethodId} {below : List Frame} {meth : Method} {c : Code} {b : Nat} {d0 : Drawn} (hd0 : s.drawn.sameBut d0 lw_cs) (hx : p.tables.exec = Jvm.exec) (hb : c.code = code) (hr : meth.sig.returnType = ret) (hlocks : meth.locks = false) {pc : Nat} {H : Heap} {ls : Array Slot} (hdg : decode code pc = .ok (.ireturn, 1)) : W p l e room_1 (s.setDrawn d0) m #[Value.ref b] below meth c H [] 603072 7202922 (lw_Z below #[Value.ref b] s) (F0 m pc ls [.int 1]) := by
  intro T hT X
  obtain ⟨fs, hret, hrun, hended, hW, hframe⟩ := X.leave (v := some (.int 1)) (hlocks := hlocks) (fun h => by rw [hr] at h; cases h)
  have hmeth' : T.vm.method? m = some meth := X.method'
  refine ⟨T.setFrames fs, ?_, .returned (some (.int 1)), hrun, hended, rfl, lw_closed hd0 ⟨_, rfl⟩ hW hframe⟩
  jvm_step X.here [X.here.top, hx, hb, hdg, hmeth', hr, ret, narrow_b1]
  (try refine ⟨rfl, ?_⟩); (try refine ⟨rfl, ?_⟩)
  first | (intro acts; rw [hret _ acts rfl rfl rfl]) | rw [hret _ _ rfl rfl rfl]
  exact Steps.refl _
/-- what holds at the law's entry: the machine, the code, the tables' words (any of lw_tbl by 'hts w (by decide +kernel)'), the script of L ints xs at the cell b, what the Statement gives of the start (any of its parts by flat_of_before) -/
def lw_At (p : Program) (s : State) (m : MethodId) (meth : Method) (c : Code) (b L : Nat) (xs : Nat → Int32) : Prop :=
  p.tables.exec = Jvm.exec ∧ c.code = code ∧ meth.sig.returnType = ret ∧ c.maxLocals = 9 ∧ s.vm.findClass R_law = some m.cls ∧ (∀ w ∈ lw_tbl, w.before #[Value.ref b] s = true) ∧ va_X b L xs s s.heap ∧ b < s.heap.size ∧ meth.locks = false ∧ (Jvm.Cond.and given_1 narrow_1).before #[Value.ref b] s = true ∧ c.exceptionTable.toList = [] ∧ meth.name = x.name
-- ===== YOUR PART BEGINS =====
/-! the start's tables: classes, rows, the words of all methods -/
set_option maxRecDepth 20000 in
theorem ws_lay : ∀ w ∈ am_lay, w ∈ lw_tbl := am_tb_all [(1, 92), (1, 94), (1, 176), (1, 178), (1, 180), (1, 182), (1, 184), (1, 186), (1, 135), (1, 137), (1, 139), (1, 155), (1, 157), (1, 159), (1, 199), (1, 201), (1, 203), (1, 205), (1, 52), (1, 81), (1, 83), (1, 85), (1, 87), (1, 111), (1, 113), (1, 115), (1, 117), (1, 119), (1, 121), (1, 57), (1, 219), (1, 221), (1, 223), (1, 225), (1, 227), (1, 229), (1, 231), (1, 233), (1, 235), (1, 237), (1, 239), (6, 142), (6, 144), (6, 146), (6, 148), (6, 150), (6, 152), (6, 154), (6, 156), (6, 158), (6, 160), (6, 162), (6, 164), (6, 166), (6, 168), (6, 170), (6, 172), (6, 174), (6, 176), (6, 178), (6, 180), (6, 182)] (by decide +kernel)
theorem ws_all : ∀ w ∈ am_WS [], w ∈ lw_tbl := by
  intro w hw
  rcases List.mem_append.mp hw with h | h
  · obtain ⟨k, -, h⟩ := List.mem_flatMap.mp h
    exact am_Wc_in k w h
  · rcases List.mem_append.mp h with h | h
    · exact ws_lay w h
    · exact absurd h List.not_mem_nil
theorem ws_good : ∀ w ∈ am_WS [], goodWord w = true := by
  have h1 : am_lay.all goodWord = true := by decide +kernel
  have h2 : ((List.range 63).flatMap am_Wc).all goodWord = true := by decide +kernel
  intro w hw
  rcases List.mem_append.mp hw with h | h
  · exact List.all_eq_true.mp h2 w h
  · rcases List.mem_append.mp h with h | h
    · exact List.all_eq_true.mp h1 w h
    · exact absurd h List.not_mem_nil
def ws_pi : List (Nat × Nat) := [(1, 61), (1, 163), (1, 125), (1, 145), (1, 190), (1, 43), (1, 67), (1, 98), (1, 37), (1, 29), (6, 116)]
theorem ws_inst (i : Nat) (hi : i < 11) : Cond.instantiable (am_cn i) (am_N i) ∈ lw_tbl := by
  have h : ∀ i, i < 11 → (am_tb (ws_pi.getD i (0, 0)).1)[(ws_pi.getD i (0, 0)).2]? = some (Cond.instantiable (am_cn i) (am_N i)) := by decide +kernel
  exact am_tb_in _ _ (List.mem_of_getElem? (h i hi))
theorem ws_ar : (am_tb 1)[55]? = some (Cond.arrayClass .int) ∧ (am_tb 8)[177]? = some (Cond.arrayClass .long) ∧ (am_tb 8)[178]? = some (Cond.arrayClass .double) := by decide +kernel
theorem ws_D {s : State} {A0 : Array Value} (hts : ∀ w ∈ lw_tbl, w.before A0 s = true) : ∃ D : va_G, ∀ (c : Nat) (q : vw_C), am_cl[c]? = some q → u_Kn s q.1 q.2.1 q.2.2 (D.1 c) (D.2 c) := by
  have h : ∀ c : Nat, ∃ z : ClassId × (Nat → Nat), ∀ q : vw_C, am_cl[c]? = some q → u_Kn s q.1 q.2.1 q.2.2 z.1 z.2 := by
    intro c
    by_cases hc : c < 11
    · obtain ⟨cC, iS, hk⟩ := u_known (C := am_cn c) (T := am_TX c) (N := am_N c) (n := am_N c) hts (fun w hw => ws_all w (am_WS_lay hc w hw)) (hts _ (ws_inst c hc))
      refine ⟨(cC, iS), fun q hq => ?_⟩
      rw [am_cl_at hc] at hq
      cases hq
      exact hk
    · exact ⟨(0, fun _ => 0), fun q hq => absurd (show c < 11 from (List.getElem?_eq_some_iff.mp hq).1) hc⟩
  obtain ⟨f, hf⟩ := Classical.axiomOfChoice h
  exact ⟨(fun c => (f c).1, fun c => (f c).2), fun c q hq => hf c q hq⟩
theorem ws_arr {s : State} {A0 : Array Value} {ty : FieldType} (h : (Cond.arrayClass ty).before A0 s = true) (hp : ty = .int ∨ ty = .long ∨ ty = .double) : ∃ c : ClassId, ArrOfT s c ty ∧ va_RA s c ty := by
  obtain ⟨c, k, comp, h1, h2, h3⟩ := Cond.arrayClass_spec h
  refine ⟨c, fun n z => ⟨fun k h => (by cases h), k, h2, comp, h3⟩, ?_⟩
  rcases hp with rfl | rfl | rfl <;> exact h1
theorem ws_K {s : State} {A0 : Array Value} (hts : ∀ w ∈ lw_tbl, w.before A0 s = true) : ∃ (D : va_G) (cT : Nat → ClassId), va_K D am_cl (am_tys cT) s := by
  obtain ⟨D, hD⟩ := ws_D hts
  obtain ⟨c0, h0⟩ := ws_arr (hts _ (am_tb_in 1 _ (List.mem_of_getElem? ws_ar.1))) (Or.inl rfl)
  obtain ⟨c1, h1⟩ := ws_arr (hts _ (am_tb_in 8 _ (List.mem_of_getElem? ws_ar.2.1))) (Or.inr (Or.inl rfl))
  obtain ⟨c2, h2⟩ := ws_arr (hts _ (am_tb_in 8 _ (List.mem_of_getElem? ws_ar.2.2))) (Or.inr (Or.inr rfl))
  refine ⟨D, fun k => if k = 0 then c0 else if k = 1 then c1 else c2, hD, fun k q hq => ?_⟩
  match k, hq with
  | 0, hq => cases hq; exact h0
  | 1, hq => cases hq; exact h1
  | 2, hq => cases hq; exact h2
  | k + 3, hq => simp at hq
theorem ws_new {A B : State} {L : List Loc} {k n : Nat} (h : A.sameButNew B L k n) (hL : ∀ z ∈ L, A.heap.size ≤ z.base) : A.sameButNew B [] k n := by
  obtain ⟨h1, h2, h3, h4, h5, h6⟩ := h
  refine ⟨h1, h2, h3, h4, h5, fun a c hc => ?_⟩
  obtain ⟨c', q1, q2, q3, q4⟩ := h6 a c hc
  have ha : a < A.heap.size := (Array.getElem?_eq_some_iff.mp hc).1
  exact ⟨c', q1, q2, q3, fun i _ => q4 i (fun hm => absurd (show A.heap.size ≤ a from hL _ hm) (Nat.not_le.mpr ha))⟩
theorem ws_fl : flags0.contains noTraceFlag = true := by decide +kernel
/-- from the entry, for every script of at most 2560 ints, the law comes to its end with true -/
theorem whole_start {p : Program} {e : Env} {s : State} {m : MethodId} {below : List Frame} {meth : Method} {c : Code} (l : Launch) (hflags : l.flags = flags0) {b L : Nat} {xs : Nat → Int32} (hL : L ≤ 2560) (C0 : lw_At p s m meth c b L xs) : W p l e room_1 s m #[Value.ref b] below meth c s.heap [] 0 0 (lw_Z below #[Value.ref b] s) (entryFrame m ([Value.ref b] : List Value).toArray 9) := by
  obtain ⟨hx, hb, hr, hml, hown, hts, hX, hbl, hlocks, hgv, htb, hnm⟩ := id C0
  have hF : ev_F s := ⟨#[.ref b], hts, fun w hw => flat_of_before _ hgv w hw⟩
  obtain ⟨sx, adV, hs0, hS0⟩ := ev_sx hF b
  obtain ⟨D, cT, hK⟩ := ws_K hts
  have hl : l.stackTraces = false := by
    unfold Launch.stackTraces
    rw [hflags, ws_fl]
    rfl
  have hsx : sx 0 < s.heap.size := by rw [hs0]; exact hbl
  have hsim := am_sim_all (l := l) (D := D) (cT := cT) (ba := s.heap.size) (sx := sx) (L := L) (xs := xs) (ex := []) (EV := ev_E s) (ss_L ws_good hF hS0) (ss_C ws_good hF hS0) (ev_strR hS0) (ev_nw hF) (ev_m s) ws_good (th_R hF hl) (ev_x hF []) hsx
  obtain ⟨n, r, hrun, q1, q2, q3, q4⟩ := law_run (L := L) (xs := xs) (fun _ _ => 0) (fun _ _ => 0) (by omega)
  have F : am_FF D cT s.heap.size sx L xs [] (ev_E s) p room_1 s m #[Value.ref b] meth c am_m_L_law 14 :=
    ⟨⟨hx, hb, hr, hml, hown, hlocks, htb, hnm⟩, ⟨fun w hw => hts w (ws_all w hw), hK, by rw [hs0]; exact hX, hsx, Nat.le_refl _, ⟨State.WarmedH.refl s, fun _ _ => rfl⟩⟩, ⟨am_d_L_law, by decide, by decide, by decide, by decide⟩⟩
  have hlh := am_lh_ini (ba := s.heap.size) (sx := sx) (as := [.retAddr 0]) (n := 9) (by decide) rfl
  have hv : List.map (am_v s.heap.size sx) [.retAddr 0] = [Value.ref b] := by
    rw [← hs0]
    rfl
  rw [hv] at hlh
  have hWd : am_Wd D cT s.heap.size sx (ks_0, az_G sa_0, fun _ _ => 0, fun _ _ => 0) true s.heap := ⟨fun k q hq => by simp [am_w, ks_0] at hq, fun _ => rfl⟩
  have k := hsim n (e := e) (below := below) (cells := 0) (slots := 0) (mc := 603072) (ms := 7202922) (st := []) F hlh hWd va_S.rf hrun (by omega) (by omega) (Nat.le_refl _) (Nat.le_refl _)
  rw [lg_entry_eq]
  intro T hT X
  obtain ⟨t, a1, o, b1, b2, h9⟩ := k T hT X
  refine ⟨t, a1, o, b1, b2, ?_⟩
  rcases h9 with ⟨⟨v, z1, z2, z3, z4⟩, J, ⟨y1, y2, y3⟩, hJ⟩ | ⟨q, h8, E, ce, J, hXc, -⟩
  · rw [q1] at z1
    cases z1
    exact ⟨z2, lw_closed (d0 := s.drawn) (Drawn.sameBut.refl _ _) y1 y2 (ws_new y3 (fun z hz => hJ z hz))⟩
  · obtain ⟨i, -, z1, -⟩ := hXc
    rw [q1] at z1
    cases z1
-- ===== YOUR PART ENDS =====
set_option maxHeartbeats 4000000 in
theorem lw_walk (l : Launch) (hflags : l.flags = flags0) (b : Addr) (xs : List Int32) : MetFree l x (headSpec (Jvm.Cond.code x code maxLocals ret :: tables_1) room_1) (lw_P b xs) (fun _ _ _ _ _ => True) lw_Q := by
  refine MetFree.of_bodyS (code := code) (maxLocals := maxLocals) (ret := ret) (by decide) ?_ ?_
  · intro args s m h hn
    obtain ⟨meth, c, h1, h2, h3, h4, h5, h6, -, -⟩ := Cond.code_spec hn (atoms_spec (ws := Jvm.Cond.code x code maxLocals ret :: tables_1) h _ List.mem_cons_self)
    exact ⟨meth, c, h1, h2, h3, h4, h5, h6⟩
  · intro p e s m args below meth c s₁ B hml0 hP _
    obtain ⟨rfl, hx, hbd, hgv⟩ := hP
    obtain ⟨scr, harrAt, hlist, hof, hsmall⟩ := hx
    obtain ⟨hcb, hkn, -, -⟩ := State.arrayAt?_spec harrAt
    have hown : s.vm.findClass R_law = some m.cls := findClass_of_methodNamed B.named
    have hts0 : ∀ c ∈ (Jvm.Cond.code x code maxLocals ret :: tables_1), c.before #[Value.ref b] s = true := atoms_spec (ws := Jvm.Cond.code x code maxLocals ret :: tables_1) B.pre
    have hts : ∀ w ∈ lw_tbl, w.before #[Value.ref b] s = true := k2_hts_sels lw_privs (fun w hw => hts0 w (List.mem_cons_of_mem _ hw)) lw_privs_ok
    have hml : c.maxLocals = 9 := B.maxLocals_eq (hts0 _ List.mem_cons_self)
    have htb0 : c.exceptionTable.toList = [] := by
      obtain ⟨meth9, c9, h1, h2, -, -, -, -, h7, -⟩ := Cond.code_spec B.named (hts0 _ List.mem_cons_self)
      cases Option.some.inj (h1.symm.trans B.method)
      cases Option.some.inj (h2.symm.trans (Stand.of_body B).code)
      rw [Array.isEmpty_iff.mp h7]
    have X₀ : Stand p l e room_1 s m #[Value.ref b] below meth c s₁ [] 0 0 := Stand.of_body B
    have hh0 : s₁.heap = s.heap := by rw [B.state]; rfl
    have hsz : scr.slots.size = xs.length := by rw [← Array.length_toList, hlist, List.length_map]
    have hval : ∀ j : Nat, j < xs.length → scr.slots[j]? = some (.int (xs.getD j 0)) := fun j hj => by
      rw [← Array.getElem?_toList, hlist]
      simp [hj]
    have hbl : b < s.heap.size := (Array.getElem?_eq_some_iff.mp hcb).1
    have hX : va_X b xs.length (fun j => xs.getD j 0) s s.heap := ⟨scr, hcb, hof, hkn, hsz, hval⟩
    have K : W p l e room_1 s m #[Value.ref b] below meth c s₁.heap [] 0 0 (lw_Z below #[Value.ref b] s) (entryFrame m ([Value.ref b] : List Value).toArray 9) := by
      rw [hh0]
      exact whole_start l hflags hbd ⟨B.exec, B.bytes, B.returns, hml, hown, hts, hX, hbl, B.notSynchronized, hgv, htb0, (name_of_methodNamed B.named B.method).1⟩
    obtain ⟨t, a1, o, b1, b2, b3⟩ := K s₁ rfl X₀
    exact ⟨t, o, a1, b1, b2, b3⟩
theorem lw_pre_spec {args : Array Value} {s : State} (h : (Jvm.Cond.and given_1 narrow_1).before args s = true) (hr : rest_1_c.before args s = true) : ∃ (b : Addr) (xs : List Int32), lw_P b xs args s := by
  have hs := flat_of_before _ h
  have hq := flat_of_before _ hr
  have hc : (Cond.count 1).before args s = true := hs _ (by decide +kernel)
  have harr : (Cond.arrayOf (.arg 0) .int).before args s = true := hs _ (by decide +kernel)
  have hle : (Cond.le (.length (.arg 0)) (.int 2560)).before args s = true := hs _ (by decide +kernel)
  have hlen : (Cond.isInt (.length (.arg 0))).before args s = true := hq _ (by decide +kernel)
  have hall : (Cond.all (.arg 0) (.isInt (.elem (.arg 0) (.index 0)))).before args s = true := hq _ (by decide +kernel)
  obtain ⟨b, xs, hb, hx⟩ := State.ints_of_pre rfl harr hlen hall
  have hsm : xs.length < 2 ^ 31 := hx.choose_spec.2.2.2
  have hev : (Term.length (.arg 0)).eval args s none [] s = some (.int xs.length.toInt32) := hx.length_eval hb
  have hv := Cond.le_ints hev (show (Term.int 2560).eval args s none [] s = some (.int 2560) from rfl)
  have hd : xs.length.toInt32 ≤ 2560 := by
    simpa [Cond.before, Cond.holds, hv] using hle
  have hN : xs.length ≤ 2560 := (Int32.ofNat_le_ofNat hsm (by decide)).mp (show Int32.ofNat xs.length ≤ Int32.ofNat 2560 from hd)
  exact ⟨b, xs, Cond.one_arg hc (show args[0]? = some (.ref b) from hb), hx, hN, h⟩
theorem lw_comes (l : Launch) (hflags : l.flags = flags0) : Comes l x (Jvm.Cond.code x code maxLocals ret :: tables_1) room_1 (fun tb e args s => Calls_1 tb e args s ∧ rest_1 tb e args s ∧ Pre_1 tb e args s)
    (fun _ _ args s o t => lw_Q args s o t) := by
  intro p e ha hc hk s m args below hf hfit hheap happ hpre
  obtain ⟨b, xs, hP⟩ := lw_pre_spec hpre.2.2 hpre.2.1
  obtain ⟨k, o, h1, h2, h3, hQ⟩ := lw_walk l hflags b xs p e ha hc hk s m args below hf ((Spec.applies_iff_loose hf).mp happ).1 hP trivial
  exact ⟨k, o, h1, h2, h3, hQ⟩
theorem lw_frame {s t : State} {o : Outcome} {args : Array Value} (h : State.butDraws s t lw_cs (fun t1 => Framed s o t1 [] 603072 7202922)) :
    State.butDraws s t [Jvm.Choice.named "NaN.bits"] (fun t1 => Framed s o t1 (fieldLocs frame_1_writes args s ++ arrayLocs frame_1_arrays args s ++ staticLocs frame_1_statics s) 603072 7202922) := h
theorem lw_limb (L : Cond) (hL : ∀ (args : Array Value) (s t : State), L.after args s (.returned (some (.int 1))) t = true) :
    ArmFor flags0 classFile x code maxLocals ret World_1 tables_1 room_1 Calls_1 rest_1 Pre_1
      (fun tb e a s o t => postC L tb e a s o t ∧ State.butDraws s t [Jvm.Choice.named "NaN.bits"] (fun t1 => Framed s o t1 (fieldLocs frame_1_writes a s ++ arrayLocs frame_1_arrays a s ++ staticLocs frame_1_statics s) 603072 7202922)) := by
  intro l hflags _ _ p e ha hc hk s m args below hf hfit hheap happ hpre
  obtain ⟨k, o, h1, h2, h3, rfl, hF⟩ := lw_comes l hflags p e ha hc hk s m args below hf hfit hheap happ hpre
  exact ⟨k, _, h1, h2, h3, hL args s _, lw_frame hF⟩
theorem i_vc : Claimed_1_1 ∧ Claimed_1_2 := ⟨lw_limb limb_1_1 (fun args s t => by simp [limb_1_1, Cond.after, Cond.holds, Cond.value]), lw_limb limb_1_2 (fun args s t => Cond.after_iff.mpr (by
  first | (rw [show limb_1_2 = Cond.eq .result (.int 1) from rfl, Cond.eq_ints (x := 1) (y := 1) rfl rfl]; simp; done) | (simp [limb_1_2, Cond.value, Term.eval]; done)))⟩
