/-! calls of constructors and of nest mates that may throw: begun from kit/laws/EXCEPTIONS.to-paste -/
section VXIA
variable {p : Program} {l : Launch} {e : Env} {R : Room} {s : State} {m : MethodId} {args : Array Value} {below : List Frame} {meth : Method} {c : Code} {T : State} {locs : List Loc} {cells slots : Nat}
theorem vx_callI (X : Stand p l e R s m args below meth c T locs cells slots) (hexec : p.tables.exec = Jvm.exec) {own : String} {index : Nat} {y : MethodName} {bytes : ByteArray} {maxL : Nat}
    (hown : s.vm.findClass own = some m.cls) (hy1 : y.name = "<init>") (hlink : (Cond.methodLink own index y).before args s = true) (hinst : (Cond.instanceMethod y).before args s = true)
    (hcode : (Cond.code y bytes maxL none).before args s = true) (hy : y.cls ≠ "java/lang/invoke/MethodHandle" ∧ y.cls ≠ "java/lang/invoke/VarHandle")
    {W9 : Nat} {Pre : Pt → Array Value → Prop} {Post : Pt → Array Value → Option Value → Pt → Prop} {PostX : Pt → Array Value → Addr → Pt → Prop} (hK : vx_Back l R p e below s args y 3 W9 Pre Post PostX)
    {g : JFrame} (hg : g.method = m) (hsize : g.locals.size = c.maxLocals) {a : Addr} {argsL rest : List Value} (hlen : ∀ sig, parseMethodDescriptor y.desc = some sig → argsL.length = sig.parameters.length)
    (hstack : g.stack = argsL.reverse ++ .ref a :: rest) (hW : 2 * g.monitorRoom + (rest.map fun v => v.category).sum ≤ W9) (hdg : decode c.code g.pc = .ok (.invokespecial index, 3))
    (hpre : ∀ vm₁, s.WarmedH vm₁ → Pre ⟨T.setVm vm₁, locs, cells, slots⟩ (Value.ref a :: argsL).toArray) :
    (∃ (v : Option Value) (vm₁ : Vm) (B : Pt), s.WarmedH vm₁ ∧ Stand p l e R s m args below meth c B.U B.locs B.cells B.slots ∧ Post ⟨T.setVm vm₁, locs, cells, slots⟩ (Value.ref a :: argsL).toArray v B ∧
      ∀ target, Steps p.tables e below (B.U.setTop { g with pc := g.pc + 3, stack := v.toList ++ rest }) target → Steps p.tables e below (T.setTop g) target) ∨
    (∃ (q : Addr) (vm₁ : Vm) (B : Pt), s.WarmedH vm₁ ∧ Stand p l e R s m args below meth c B.U B.locs B.cells B.slots ∧ PostX ⟨T.setVm vm₁, locs, cells, slots⟩ (Value.ref a :: argsL).toArray q B ∧
      Steps p.tables e below (T.setTop g) ((B.U.setTop { g with stack := rest }).pushFrame (.throwing q))) := by
  subst hg
  have hpl : e.platform.magicAccessors = ({} : Platform).magicAccessors := by rw [X.admits.platform]
  obtain ⟨mk, methM, cM, kP, vm₁, hnamed, hmethM, hcodeM, -, hlocalsM, -, hkP, -, hW₁, hstep₁⟩ := Steps.initColdArgs (e := e) X.here hexec X.warmed hpl hown hy1 hy hlink hinst hcode (f := g) rfl hlen hstack hdg
  have X₁ := X.noted hW₁
  rcases hK g.method meth c ⟨T.setVm vm₁, locs, cells, slots⟩ { g with stack := rest } (.invokespecial index) mk (Value.ref a :: argsL).toArray X₁ rfl hsize hdg hW (X₁.named hnamed) (hpre vm₁ X₁.warmed) with ⟨v, B, X', hpost, hsteps⟩ | ⟨q, B, X', hpost, hsteps⟩
  · exact Or.inl ⟨v, vm₁, B, X₁.warmed, X', hpost, fun target h => hstep₁ _ fun acts => by rw [doInvoke_state]; exact hsteps.trans h⟩
  · exact Or.inr ⟨q, vm₁, B, X₁.warmed, X', hpost, hstep₁ _ fun acts => by rw [doInvoke_state]; exact hsteps⟩
end VXIA
section VXIB
variable {p : Program} {l : Launch} {e : Env} {R : Room} {s : State} {m : MethodId} {args : Array Value} {below : List Frame} {meth : Method} {c : Code} {H : Heap} {locs : List Loc} {cells slots : Nat}
variable {y : MethodName} {bytes cc : ByteArray} {maxL nL mc ms n index : Nat} {ret : Option FieldType} {ws : List Cond} {rm : Room} {Pc : Array Value → State → Prop} {Qc : Array Value → State → Outcome → State → Prop} {XC : String → State → State → Prop} {free : Addr → Prop} {Ts : List Cond} {own C : String} {b : Addr} {As rest : List Value} {g : JFrame}
theorem vx_runI (S : CallFix p m c cc nL s args Ts own) (hM : vx_Met l y ws rm Pc Qc XC mc ms free) (cw : CallB R s args own index y bytes maxL none ws rm mc ms n ∧ y.name = "<init>" ∧ (Cond.instanceMethod y).before args s = true) (hp : PreS s H Pc (.ref b :: As))
    (hg : g.method = m) (hn : As.length = n) (hsize : g.locals.size = nL) (hstack : g.stack = As.reverse ++ .ref b :: rest) (hW : 2 * g.monitorRoom + (rest.map fun v => v.category).sum ≤ 8) (hdg : decode cc g.pc = .ok (.invokespecial index, 3)) (hf : cells + mc ≤ R.cells ∧ slots + ms ≤ R.slots) :
    vx_Run p l e R s m args below meth c H locs cells slots mc ms g rest (Qc (Value.ref b :: As).toArray) XC free := by
  have hK : vx_Back l R p e below s args y 3 8 (PreOf R mc ms Pc) (PostOf Qc mc ms free) (vx_Post XC mc ms free) := vx_callBack cw.1 hM hp.1
  obtain ⟨⟨-, -, -, -, -, -, hcode, -, hy, hlen, hl⟩, hy1, hin⟩ := cw
  obtain ⟨hx, hb, hml, ho, -⟩ := S
  have hPc := hp.2
  intro T hT X
  rcases vx_callI X hx (bytes := bytes) (maxL := maxL) ho hy1 hl hin hcode hy hK hg (hsize.trans hml.symm) (a := b) (argsL := As) (rest := rest) (fun sig h => hn.trans (hlen sig h)) hstack hW (by rw [hb]; exact hdg)
    (fun vm₁ hW₁ => ⟨hf.1, hf.2, hPc (T.setVm vm₁) hT hW₁⟩) with ⟨v, vm₁, ⟨U', l2, c2, s2⟩, hW₁, X', ⟨g', mk, t, L, e1, e2, hq, h1, hL, h2, h3⟩, st⟩ | ⟨q, vm₁, ⟨U', l2, c2, s2⟩, hW₁, X', ⟨g', mk, t, L, E, ce, e1, e2, hq, hce, hcv, hcl, h1, hL, h2, h3⟩, st⟩
  · dsimp only [Pt.U, Pt.locs, Pt.cells, Pt.slots] at X' e1 e2 h1 h2 h3 st
    subst h1; subst h2; subst h3
    exact Or.inl ⟨v, (T.setVm vm₁).calling g' mk (Value.ref b :: As).toArray, t, U', L, hT, X', hL, e1, e2, hq, st⟩
  · dsimp only [Pt.U, Pt.locs, Pt.cells, Pt.slots] at X' e1 e2 h1 h2 h3 st hcl
    subst h1; subst h2; subst h3
    exact Or.inr ⟨q, (T.setVm vm₁).calling g' mk (Value.ref b :: As).toArray, t, U', L, E, ce, hT, X', hL, e1, e2, hq, hce, hcv, vx_cls hW₁ hcl, st⟩
end VXIB
/-! ===== END ===== -/
/-! ===== BEGIN a private constructor of a nest mate that throws ===== -/
section VXIC
variable {p : Program} {l : Launch} {e : Env} {R : Room} {s : State} {m : MethodId} {args : Array Value} {below : List Frame} {meth : Method} {c : Code} {T : State} {locs : List Loc} {cells slots : Nat}
theorem vx_callIN (X : Stand p l e R s m args below meth c T locs cells slots) (hexec : p.tables.exec = Jvm.exec) {own : String} {index : Nat} {host : String} {y : MethodName} {bytes : ByteArray} {maxL : Nat}
    (hown : s.vm.findClass own = some m.cls) (hy1 : y.name = "<init>") (hlink : (Cond.methodLinkNest own index y host).before args s = true) (hinst : (Cond.instanceMethod y).before args s = true)
    (hcode : (Cond.code y bytes maxL none).before args s = true) (hy : y.cls ≠ "java/lang/invoke/MethodHandle" ∧ y.cls ≠ "java/lang/invoke/VarHandle")
    {W9 : Nat} {Pre : Pt → Array Value → Prop} {Post : Pt → Array Value → Option Value → Pt → Prop} {PostX : Pt → Array Value → Addr → Pt → Prop} (hK : vx_Back l R p e below s args y 3 W9 Pre Post PostX)
    {g : JFrame} (hg : g.method = m) (hsize : g.locals.size = c.maxLocals) {a : Addr} {argsL rest : List Value} (hlen : ∀ sig, parseMethodDescriptor y.desc = some sig → argsL.length = sig.parameters.length)
    (hstack : g.stack = argsL.reverse ++ .ref a :: rest) (hW : 2 * g.monitorRoom + (rest.map fun v => v.category).sum ≤ W9) (hdg : decode c.code g.pc = .ok (.invokespecial index, 3))
    (hpre : ∀ vm₁, s.WarmedH vm₁ → Pre ⟨T.setVm vm₁, locs, cells, slots⟩ (Value.ref a :: argsL).toArray) :
    (∃ (v : Option Value) (vm₁ : Vm) (B : Pt), s.WarmedH vm₁ ∧ Stand p l e R s m args below meth c B.U B.locs B.cells B.slots ∧ Post ⟨T.setVm vm₁, locs, cells, slots⟩ (Value.ref a :: argsL).toArray v B ∧
      ∀ target, Steps p.tables e below (B.U.setTop { g with pc := g.pc + 3, stack := v.toList ++ rest }) target → Steps p.tables e below (T.setTop g) target) ∨
    (∃ (q : Addr) (vm₁ : Vm) (B : Pt), s.WarmedH vm₁ ∧ Stand p l e R s m args below meth c B.U B.locs B.cells B.slots ∧ PostX ⟨T.setVm vm₁, locs, cells, slots⟩ (Value.ref a :: argsL).toArray q B ∧
      Steps p.tables e below (T.setTop g) ((B.U.setTop { g with stack := rest }).pushFrame (.throwing q))) := by
  subst hg
  have hpl : e.platform.magicAccessors = ({} : Platform).magicAccessors := by rw [X.admits.platform]
  obtain ⟨mk, methM, cM, kP, vm₁, hnamed, hmethM, hcodeM, -, hlocalsM, -, hkP, -, hW₁, hstep₁⟩ := Steps.initColdArgsNest (e := e) X.here hexec X.warmed hpl hown hy1 hy hlink hinst hcode (f := g) rfl hlen hstack hdg
  have X₁ := X.noted hW₁
  rcases hK g.method meth c ⟨T.setVm vm₁, locs, cells, slots⟩ { g with stack := rest } (.invokespecial index) mk (Value.ref a :: argsL).toArray X₁ rfl hsize hdg hW (X₁.named hnamed) (hpre vm₁ X₁.warmed) with ⟨v, B, X', hpost, hsteps⟩ | ⟨q, B, X', hpost, hsteps⟩
  · exact Or.inl ⟨v, vm₁, B, X₁.warmed, X', hpost, fun target h => hstep₁ _ fun acts => by rw [doInvoke_state]; exact hsteps.trans h⟩
  · exact Or.inr ⟨q, vm₁, B, X₁.warmed, X', hpost, hstep₁ _ fun acts => by rw [doInvoke_state]; exact hsteps⟩
end VXIC
section VXID
variable {p : Program} {l : Launch} {e : Env} {R : Room} {s : State} {m : MethodId} {args : Array Value} {below : List Frame} {meth : Method} {c : Code} {H : Heap} {locs : List Loc} {cells slots : Nat}
theorem vx_runIN {y : MethodName} {bytes cc : ByteArray} {maxL nL mc ms n index : Nat} {ws : List Cond} {rm : Room} {Pc : Array Value → State → Prop} {Qc : Array Value → State → Outcome → State → Prop} {XC : String → State → State → Prop} {free : Addr → Prop} {Ts : List Cond} {own host : String} {b : Addr} {As rest : List Value} {g : JFrame}
    (S : CallFix p m c cc nL s args Ts own) (hM : vx_Met l y ws rm Pc Qc XC mc ms free) (cw : va_CN R s args own index y host bytes maxL none ws rm mc ms n ∧ y.name = "<init>" ∧ (Cond.instanceMethod y).before args s = true) (hp : PreS s H Pc (.ref b :: As))
    (hg : g.method = m) (hn : As.length = n) (hsize : g.locals.size = nL) (hstack : g.stack = As.reverse ++ .ref b :: rest) (hW : 2 * g.monitorRoom + (rest.map fun v => v.category).sum ≤ 8) (hdg : decode cc g.pc = .ok (.invokespecial index, 3)) (hf : cells + mc ≤ R.cells ∧ slots + ms ≤ R.slots) :
    vx_Run p l e R s m args below meth c H locs cells slots mc ms g rest (Qc (Value.ref b :: As).toArray) XC free := by
  obtain ⟨⟨⟨hrc, hrs, hfr, hlo, hws, hcw⟩, hcode, hini, hy, hlen, hl⟩, hx1, hx2⟩ := cw
  have hK : vx_Back l R p e below s args y 3 8 (PreOf R mc ms Pc) (PostOf Qc mc ms free) (vx_Post XC mc ms free) := vx_back (bytes := bytes) (maxL := maxL) (ret := none) hM hp.1 hrc hrs hfr hlo hws hcw (fun a' U hW => word_at hW (Or.inl (by first | rfl | simp [Cond.onTables, Cond.keeps, Cond.steady])) hini)
  obtain ⟨hx, hb, hml, ho, -⟩ := S
  have hPc := hp.2
  intro T hT X
  rcases vx_callIN X hx (bytes := bytes) (maxL := maxL) ho hx1 hl hx2 hcode hy hK hg (hsize.trans hml.symm) (a := b) (argsL := As) (rest := rest) (fun sig h => hn.trans (hlen sig h)) hstack hW (by rw [hb]; exact hdg)
    (fun vm₁ hW₁ => ⟨hf.1, hf.2, hPc (T.setVm vm₁) hT hW₁⟩) with ⟨v, vm₁, ⟨U', l2, c2, s2⟩, hW₁, X', ⟨g', mk, t, L, e1, e2, hq, h1, hL, h2, h3⟩, st⟩ | ⟨q, vm₁, ⟨U', l2, c2, s2⟩, hW₁, X', ⟨g', mk, t, L, E, ce, e1, e2, hq, hce, hcv, hcl, h1, hL, h2, h3⟩, st⟩
  · dsimp only [Pt.U, Pt.locs, Pt.cells, Pt.slots] at X' e1 e2 h1 h2 h3 st
    subst h1; subst h2; subst h3
    exact Or.inl ⟨v, (T.setVm vm₁).calling g' mk (Value.ref b :: As).toArray, t, U', L, hT, X', hL, e1, e2, hq, st⟩
  · dsimp only [Pt.U, Pt.locs, Pt.cells, Pt.slots] at X' e1 e2 h1 h2 h3 st hcl
    subst h1; subst h2; subst h3
    exact Or.inr ⟨q, (T.setVm vm₁).calling g' mk (Value.ref b :: As).toArray, t, U', L, E, ce, hT, X', hL, e1, e2, hq, hce, hcv, vx_cls hW₁ hcl, st⟩
end VXID
section
variable {p : Program} {l : Launch} {e : Env} {R : Room} {s : State} {m : MethodId} {args : Array Value} {below : List Frame} {meth : Method} {c : Code} {H : Heap} {locs : List Loc} {cells slots : Nat}
variable {T : State}
theorem vx_callSN (X : Stand p l e R s m args below meth c T locs cells slots) (hexec : p.tables.exec = Jvm.exec) {own : String} {index : Nat} {host : String} {y : MethodName} {bytes : ByteArray} {maxL : Nat} {ret : Option FieldType}
    (hown : s.vm.findClass own = some m.cls) (hlink : (Cond.methodLinkNest own index y host).before args s = true) (hstat : (Cond.static y).before args s = true) (hinit : (Cond.initialized y.cls).before args s = true)
    (hcode : (Cond.code y bytes maxL ret).before args s = true) (hy : y.cls ≠ "java/lang/invoke/MethodHandle" ∧ y.cls ≠ "java/lang/invoke/VarHandle")
    {W : Nat} {Pre : Pt → Array Value → Prop} {Post : Pt → Array Value → Option Value → Pt → Prop} {PostX : Pt → Array Value → Addr → Pt → Prop} (hK : vx_Back l R p e below s args y 3 W Pre Post PostX)
    {g : JFrame} (hg : g.method = m) (hsize : g.locals.size = c.maxLocals) {argsL rest : List Value} (hlen : ∀ sig, parseMethodDescriptor y.desc = some sig → argsL.length = sig.parameters.length)
    (hstack : g.stack = argsL.reverse ++ rest) (hW : 2 * g.monitorRoom + (rest.map fun v => v.category).sum ≤ W) (hdg : decode c.code g.pc = .ok (.invokestatic index, 3))
    (hpre : ∀ vm₁, s.WarmedH vm₁ → Pre ⟨T.setVm vm₁, locs, cells, slots⟩ argsL.toArray) :
    (∃ (v : Option Value) (vm₁ : Vm) (B : Pt), s.WarmedH vm₁ ∧ Stand p l e R s m args below meth c B.U B.locs B.cells B.slots ∧ Post ⟨T.setVm vm₁, locs, cells, slots⟩ argsL.toArray v B ∧
      ∀ target, Steps p.tables e below (B.U.setTop { g with pc := g.pc + 3, stack := v.toList ++ rest }) target → Steps p.tables e below (T.setTop g) target) ∨
    (∃ (q : Addr) (vm₁ : Vm) (B : Pt), s.WarmedH vm₁ ∧ Stand p l e R s m args below meth c B.U B.locs B.cells B.slots ∧ PostX ⟨T.setVm vm₁, locs, cells, slots⟩ argsL.toArray q B ∧
      Steps p.tables e below (T.setTop g) ((B.U.setTop { g with stack := rest }).pushFrame (.throwing q))) := by
  obtain ⟨mk, hnamed⟩ := Cond.code_named hcode
  obtain ⟨methM, cM, hmethM, -, -, -, -, -, -, hsigM⟩ := Cond.code_spec hnamed hcode
  have hstatic : methM.isStatic = true := Cond.static_spec hnamed hmethM hstat
  obtain ⟨kP, hkP, -⟩ := className_of_methodNamed hnamed
  have hinitP : kP.init = .initialized := Cond.initialized_spec (findClass_of_methodNamed hnamed) hkP hinit
  obtain ⟨vm₁, X₁, hstep₁⟩ := X.invokestaticNest hexec hown hlink hnamed hmethM hstatic hkP hinitP hy (g := g) hg (argsL := argsL) (rest := rest) (hlen _ hsigM) hstack hdg
  rcases hK m meth c ⟨T.setVm vm₁, locs, cells, slots⟩ { g with stack := rest } (.invokestatic index) mk argsL.toArray X₁ hg hsize hdg hW (X₁.named hnamed) (hpre vm₁ X₁.warmed) with ⟨v, B, X', hpost, hsteps⟩ | ⟨q, B, X', hpost, hsteps⟩
  · exact Or.inl ⟨v, vm₁, B, X₁.warmed, X', hpost, fun target h => hstep₁ _ fun acts => by rw [doInvoke_state]; exact hsteps.trans h⟩
  · exact Or.inr ⟨q, vm₁, B, X₁.warmed, X', hpost, hstep₁ _ fun acts => by rw [doInvoke_state]; exact hsteps⟩
theorem vx_runSN {y : MethodName} {bytes cc : ByteArray} {maxL nL mc ms n index : Nat} {ret : Option FieldType} {ws : List Cond} {rm : Room} {Pc : Array Value → State → Prop} {Qc : Array Value → State → Outcome → State → Prop} {XC : String → State → State → Prop} {free : Addr → Prop} {Ts : List Cond} {own host : String} {As rest : List Value} {g : JFrame}
    (S : CallFix p m c cc nL s args Ts own) (hM : vx_Met l y ws rm Pc Qc XC mc ms free) (cw : va_CN R s args own index y host bytes maxL ret ws rm mc ms n ∧ (Cond.static y).before args s = true ∧ True) (hp : PreS s H Pc As)
    (hg : g.method = m) (hn : As.length = n) (hsize : g.locals.size = nL) (hstack : g.stack = As.reverse ++ rest) (hW : 2 * g.monitorRoom + (rest.map fun v => v.category).sum ≤ 8) (hdg : decode cc g.pc = .ok (.invokestatic index, 3)) (hf : cells + mc ≤ R.cells ∧ slots + ms ≤ R.slots) :
    vx_Run p l e R s m args below meth c H locs cells slots mc ms g rest (Qc As.toArray) XC free := by
  obtain ⟨⟨⟨hrc, hrs, hfr, hlo, hws, hcw⟩, hcode, hini, hy, hlen, hl⟩, hx1, hx2⟩ := cw
  have hK : vx_Back l R p e below s args y 3 8 (PreOf R mc ms Pc) (PostOf Qc mc ms free) (vx_Post XC mc ms free) := vx_back (bytes := bytes) (maxL := maxL) (ret := ret) hM hp.1 hrc hrs hfr hlo hws hcw (fun a' U hW => word_at hW (Or.inl (by first | rfl | simp [Cond.onTables, Cond.keeps, Cond.steady])) hini)
  obtain ⟨hx, hb, hml, ho, -⟩ := S
  have hPc := hp.2
  intro T hT X
  rcases vx_callSN X hx (bytes := bytes) (maxL := maxL) (ret := ret) ho hl hx1 hini hcode hy hK hg (hsize.trans hml.symm) (argsL := As) (rest := rest) (fun sig h => hn.trans (hlen sig h)) hstack hW (by rw [hb]; exact hdg)
    (fun vm₁ hW₁ => ⟨hf.1, hf.2, hPc (T.setVm vm₁) hT hW₁⟩) with ⟨v, vm₁, ⟨U', l2, c2, s2⟩, hW₁, X', ⟨g', mk, t, L, e1, e2, hq, h1, hL, h2, h3⟩, st⟩ | ⟨q, vm₁, ⟨U', l2, c2, s2⟩, hW₁, X', ⟨g', mk, t, L, E, ce, e1, e2, hq, hce, hcv, hcl, h1, hL, h2, h3⟩, st⟩
  · dsimp only [Pt.U, Pt.locs, Pt.cells, Pt.slots] at X' e1 e2 h1 h2 h3 st
    subst h1; subst h2; subst h3
    exact Or.inl ⟨v, (T.setVm vm₁).calling g' mk As.toArray, t, U', L, hT, X', hL, e1, e2, hq, st⟩
  · dsimp only [Pt.U, Pt.locs, Pt.cells, Pt.slots] at X' e1 e2 h1 h2 h3 st hcl
    subst h1; subst h2; subst h3
    exact Or.inr ⟨q, (T.setVm vm₁).calling g' mk As.toArray, t, U', L, E, ce, hT, X', hL, e1, e2, hq, hce, hcv, vx_cls hW₁ hcl, st⟩
end
/-! THE JVM ANSWERS WHAT THE SMALL MACHINE ANSWERS, 4: calls, ends, handlers, and the whole run -/
def am_Qc (D : va_G) (cT : Nat → ClassId) (A : Nat → Prop) (ba : Nat → Nat) (sx : Nat → Nat) (N : Nat) (r : am_R) : Array Value → State → Outcome → State → Prop := fun _ st oc t =>
  ∃ (v : Option Value) (ba2 : Nat → Nat), r.1 = .inl v ∧ (∀ i, i < N → ba2 i = ba i) ∧ oc = .returned (v.map (am_v ba2 sx)) ∧ am_Wd D cT ba2 sx A r.2.1 t.heap ∧ va_F A st t
def am_Xc (D : va_G) (cT : Nat → ClassId) (A : Nat → Prop) (ba : Nat → Nat) (sx : Nat → Nat) (N : Nat) (r : am_R) : String → State → State → Prop := fun E st t =>
  ∃ (i : Nat) (ba2 : Nat → Nat), (0 < i ∧ i < 6) ∧ r.1 = .inr i ∧ (∀ j, j < N → ba2 j = ba j) ∧ E = am_en i ∧ am_Wd D cT ba2 sx A r.2.1 t.heap ∧ va_F A st t
/-- what a method is given at its start -/
def am_Pc (D : va_G) (cT : Nat → ClassId) (A : Nat → Prop) (ba : Nat → Nat) (sx : Nat → Nat) (L : Nat) (xs : Nat → Int32) (EV : State → Heap → Prop) (as : List Value) (h : am_H) : Array Value → State → Prop := fun a U =>
  a = (as.map (am_v ba sx)).toArray ∧ am_Wd D cT ba sx A h U.heap ∧ va_K D am_cl (am_tys cT) U ∧ va_X (sx 0) L xs U U.heap ∧ (sx 0 < U.heap.size ∧ ¬ A (sx 0)) ∧ (∀ q : Nat, U.heap.size ≤ q → A q) ∧ EV U U.heap
/-- what holds of the world outside goes from one state to another -/
def am_EVm (A : Nat → Prop) (EV : State → Heap → Prop) : Prop := (∀ (u U : State) (H : Heap), u.WarmedH U.vm → EV u H → EV U H) ∧ ∀ (U : State) (H H1 : Heap), (∀ a : Nat, a < H.size → ¬ A a → H1[a]? = H[a]?) → EV U H → EV U H1
/-- a throw of an exception of the library, with a text -/
def am_thrR (l : Launch) (D : va_G) (cT : Nat → ClassId) (A : Nat → Prop) (sx : Nat → Nat) (L : Nat) (xs : Nat → Int32) (ex : List Cond) (EV : State → Heap → Prop) : Prop :=
  ∀ {p : Program} {e : Env} {R : Room} {s : State} {m : MethodId} {args : Array Value} {below : List Frame} {meth : Method} {c : Code} {H : Heap} {locs : List Loc} {cells slots : Nat} {mt : am_M1} {d pc E mc ms : Nat} {ins : Instr} {len : Nat} {ls : Array Slot} {st rest : List Value} {Qc : Array Value → State → Outcome → State → Prop} {XC : String → State → State → Prop},
    am_FF D cT A sx L xs ex EV p R s m args meth c mt d → ls.size = am_mL mt → am_find pc (am_c mt) = some (ins, len) → am_thr mt ins pc st = some E → (rest.map fun v => v.category).sum ≤ 8 → va_S A s.heap H locs → cells + 1 ≤ mc → slots + 6 ≤ ms → cells + 1 ≤ R.cells → slots + 6 ≤ R.slots →
    (∀ t : State, s.vm.Alike t.vm → H.size ≤ t.heap.size → (∀ q : Nat, q < H.size → t.heap[q]? = H[q]?) → 0 < E ∧ E < 6 → XC (am_en E) s t) →
    W p l e R s m args below meth c H locs cells slots (vx_MQ below Qc XC args s mc ms A) (F0 m pc ls rest)
/-- which classes of exceptions are none of another's -/
def am_exR (EV : State → Heap → Prop) : Prop := (∀ (U : State) (H : Heap), EV U H → ∀ i, 0 < i → i < 6 → va_Nw (.castable (am_en i) (am_en i)) U) ∧ ∀ (U : State) (H : Heap), EV U H → ∀ i j : Nat, 0 < i → i < 6 → 0 < j → j < 6 → i ≠ j → va_Nc (am_en i) (am_en j) U
/-- the world outside stands on the law's start: what is told of that holds, its cells are no one's to change -/
def am_bse (l : Launch) (A : Nat → Prop) (EV : State → Heap → Prop) : Prop := l.stackTraces = false ∧ ∃ s0 : State, (∃ A0 : Array Value, (∀ w ∈ lw_tbl, w.before A0 s0 = true) ∧ ∀ w ∈ flatC (Jvm.Cond.and given_1 narrow_1), w.before A0 s0 = true) ∧ (∀ a : Nat, a < s0.heap.size → ¬ A a) ∧ ∀ (U : State) (H : Heap), EV U H → s0.WarmedH U.vm ∧ ∀ a : Nat, a < s0.heap.size → H[a]? = s0.heap[a]?
/-- all that is asked of the world outside -/
def am_Out (l : Launch) (D : va_G) (cT : Nat → ClassId) (A : Nat → Prop) (sx : Nat → Nat) (tq : Nat → Option String) (L : Nat) (xs : Nat → Int32) (ex : List Cond) (EV : State → Heap → Prop) : Prop :=
  (am_strL l A sx tq ex EV ∧ am_strC l A sx tq ex EV) ∧ (am_strR sx EV ∧ am_nwR EV) ∧ (am_EVm A EV ∧ am_thrR l D cT A sx L xs ex EV) ∧ am_exR EV ∧ am_bse l A EV
theorem am_W_mono {p : Program} {l : Launch} {e : Env} {R : Room} {s : State} {m : MethodId} {args : Array Value} {below : List Frame} {meth : Method} {c : Code} {H : Heap} {locs : List Loc} {cells slots : Nat} {Q Q2 : State → Prop} {g : JFrame} (k : W p l e R s m args below meth c H locs cells slots Q g) (h : ∀ t, Q t → Q2 t) : W p l e R s m args below meth c H locs cells slots Q2 g := by
  intro T hT X
  obtain ⟨t, a, b⟩ := k T hT X
  exact ⟨t, a, h t b⟩
theorem am_MQ_mono {below : List Frame} {Qc Qc2 : Array Value → State → Outcome → State → Prop} {XC XC2 : String → State → State → Prop} {a : Array Value} {s : State} {mc ms : Nat} {free : Addr → Prop} (h1 : ∀ st o t, Qc a st o t → Qc2 a st o t) (h2 : ∀ E st t, XC E st t → XC2 E st t) : ∀ t, vx_MQ below Qc XC a s mc ms free t → vx_MQ below Qc2 XC2 a s mc ms free t := by
  intro t h
  obtain ⟨o, q1, q2, q3⟩ := h
  refine ⟨o, q1, q2, ?_⟩
  rcases q3 with ⟨q4, q5⟩ | ⟨q, q4, E, ce, L, q5, q6⟩
  · exact Or.inl ⟨h1 _ _ _ q4, q5⟩
  · exact Or.inr ⟨q, q4, E, ce, L, h2 _ _ _ q5, q6⟩
/-- an end told of later addresses is one told of the earlier -/
theorem am_Qc_back {D : va_G} {cT : Nat → ClassId} {A : Nat → Prop} {ba ba2 : Nat → Nat} {sx : Nat → Nat} {N N2 : Nat} {r r2 : am_R} (hN : N ≤ N2) (hb : ∀ i, i < N → ba2 i = ba i) (h1 : r2.1 = r.1) (h2 : r2.2.1 = r.2.1) {a : Array Value} {st : State} {o : Outcome} {t : State} (h : am_Qc D cT A ba2 sx N2 r a st o t) : am_Qc D cT A ba sx N r2 a st o t := by
  obtain ⟨v, ba3, q1, q2, q3, q4, q5⟩ := h
  exact ⟨v, ba3, h1.trans q1, fun i hi => (q2 i (by omega)).trans (hb i hi), q3, by rw [h2]; exact q4, q5⟩
theorem am_Xc_back {D : va_G} {cT : Nat → ClassId} {A : Nat → Prop} {ba ba2 : Nat → Nat} {sx : Nat → Nat} {N N2 : Nat} {r r2 : am_R} (hN : N ≤ N2) (hb : ∀ i, i < N → ba2 i = ba i) (h1 : r2.1 = r.1) (h2 : r2.2.1 = r.2.1) {E : String} {st t : State} (h : am_Xc D cT A ba2 sx N2 r E st t) : am_Xc D cT A ba sx N r2 E st t := by
  obtain ⟨i, ba3, q0, q1, q2, q3, q4, q5⟩ := h
  exact ⟨i, ba3, q0, h1.trans q1, fun i hi => (q2 i (by omega)).trans (hb i hi), q3, by rw [h2]; exact q4, q5⟩
theorem am_goodIn {Ts ws : List Cond} (hg : ∀ w ∈ Ts, goodWord w = true) (h : ∀ w ∈ ws, w ∈ Ts) : GoodIn Ts ws := fun w hw => ⟨h w hw, good_of_word (hg w (h w hw))⟩
theorem am_sl (vs : List Value) (h : am_cs vs = vs.length) : (lg_sl vs).length = vs.length ∧ ∀ (i j : Nat) (v : Value), vs[i]? = some v → (j + i, v) ∈ lv_args j vs := by
  have hc : ∀ (us : List Value), us.length ≤ am_cs us := by
    intro us
    induction us with
    | nil => exact Nat.le_refl _
    | cons u us ih =>
      have : 1 ≤ u.category := by cases u <;> simp [Value.category]
      simp only [am_cs, List.map_cons, List.sum_cons, List.length_cons] at ih ⊢
      omega
  induction vs with
  | nil => exact ⟨rfl, fun i j v hv => by simp at hv⟩
  | cons u vs ih =>
    have h1 := hc vs
    have h2 : 1 ≤ u.category := by cases u <;> simp [Value.category]
    have h3 : am_cs (u :: vs) = u.category + am_cs vs := by simp [am_cs]
    rw [h3, List.length_cons] at h
    have hu : u.category = 1 := by omega
    obtain ⟨g1, g2⟩ := ih (by omega)
    refine ⟨?_, fun i j v hv => ?_⟩
    · simp only [lg_sl, List.flatMap_cons, hu] at g1 ⊢
      simp [g1]
    · unfold lv_args
      rw [if_neg (by omega)]
      cases i with
      | zero => rw [List.getElem?_cons_zero] at hv; cases hv; exact List.mem_cons_self
      | succ i =>
        rw [List.getElem?_cons_succ] at hv
        have := g2 i (j + 1) v hv
        rw [show j + 1 + i = j + (i + 1) by omega] at this
        exact List.mem_cons_of_mem _ this
theorem am_cs_app (a b : List Value) : am_cs (a ++ b) = am_cs a + am_cs b := by simp [am_cs]
theorem am_cs_rev (a : List Value) : am_cs a.reverse = am_cs a := by simp [am_cs, List.sum_reverse]
/-- the locals with which a method begins -/
theorem am_lh_ini {ba : Nat → Nat} {sx : Nat → Nat} {as : List Value} {n : Nat} (hn : as.length ≤ n) (hc : am_cs as = as.length) : am_lh ba sx ((lg_sl (as.map (am_v ba sx)) ++ List.replicate (n - (lg_sl (as.map (am_v ba sx))).length) Slot.unset).toArray) n (am_ini n as) := by
  have hc2 : am_cs (as.map (am_v ba sx)) = (as.map (am_v ba sx)).length := by
    rw [List.length_map, ← hc]
    exact am_cs_map ba sx as
  obtain ⟨g1, g2⟩ := am_sl _ hc2
  rw [List.length_map] at g1
  have hl := lv_entry (as.map (am_v ba sx)) (n := n) (by rw [g1]; exact hn)
  refine ⟨hl.1, hl.2.1, by simp [am_ini]; omega, fun i v hv => ?_⟩
  have hv2 : as[i]? = some v := by
    unfold am_ld am_ini at hv
    by_cases hi : i < as.length
    · rw [List.getElem?_append_left (by rw [List.length_map]; exact hi), List.getElem?_map] at hv
      cases hq : as[i]? with
      | none => rw [hq] at hv; cases hv
      | some w => rw [hq] at hv; cases hv; rfl
    · rw [List.getElem?_append_right (by rw [List.length_map]; omega)] at hv
      rw [List.getElem?_replicate] at hv
      split at hv
      next o ho => split at ho <;> cases ho <;> cases hv
      next => cases hv
  have h9 := g2 i 0 (am_v ba sx v) (by rw [List.getElem?_map, hv2]; rfl)
  rw [Nat.zero_add] at h9
  exact hl.2.2 _ h9
/-- a handler's first store, forgotten -/
theorem am_lh_kill {ba : Nat → Nat} {sx : Nat → Nat} {ls : Array Slot} {nL i : Nat} {lv : am_L} {q : Nat} (hn : lv.length = nL) (h : lv_has ls nL ((i, Value.ref q) :: (am_as ba sx lv).filter (fun q => !(q.1 == i) && !(q.1 + 1 == i && q.2.category == 2)))) : am_lh ba sx ls nL ((am_sto lv i (.ref 0)).set i none) := by
  refine ⟨h.1, h.2.1, by rw [List.length_set, am_sto_len]; exact hn, fun j w hj => ?_⟩
  have hji : j ≠ i := by
    rintro rfl
    unfold am_ld at hj
    by_cases hl : j < (am_sto lv j (.ref 0)).length
    · rw [List.getElem?_set_self hl] at hj; cases hj
    · rw [List.getElem?_eq_none (by rw [List.length_set]; omega)] at hj; cases hj
  have hj2 : am_ld (am_sto lv i (.ref 0)) j = some w := by
    unfold am_ld at hj ⊢
    rw [List.getElem?_set_ne (Ne.symm hji)] at hj
    exact hj
  rcases am_sto_ld lv i j _ w hj2 with ⟨h1, -⟩ | ⟨h1, h2, h3, -⟩
  · exact absurd h1 hji
  · refine h.2.2 (j, am_v ba sx w) (List.mem_cons_of_mem _ (List.mem_filter.mpr ⟨am_as_mem h2, ?_⟩))
    simp only [Bool.and_eq_true, Bool.not_eq_true', beq_eq_false_iff_ne, ne_eq, Bool.and_eq_false_iff, am_v_cat]
    refine ⟨h1, ?_⟩
    by_cases hq : j + 1 = i
    · exact Or.inr (fun z => h3 ⟨hq, z⟩)
    · exact Or.inl hq
theorem am_hand_split {own pc E : Nat} : ∀ {hh : List (Nat × Nat × Nat × Nat)} {o : Option Nat}, am_hand own pc E hh = some o →
    match o with
    | none => ∀ z ∈ hh, (¬ (z.1 ≤ pc ∧ pc < z.2.1)) ∨ ∃ E2 p, am_find z.2.2.2 (am_qT own) = some (E2, p) ∧ E2 ≠ E
    | some hp => ∃ pre x suf, hh = pre ++ x :: suf ∧ (∀ z ∈ pre, (¬ (z.1 ≤ pc ∧ pc < z.2.1)) ∨ ∃ E2 p, am_find z.2.2.2 (am_qT own) = some (E2, p) ∧ E2 ≠ E) ∧ (x.1 ≤ pc ∧ pc < x.2.1) ∧ x.2.2.1 = hp ∧ ∃ p, am_find x.2.2.2 (am_qT own) = some (E, p)
  | [], o, h => by
    unfold am_hand at h
    cases h
    intro z hz
    cases hz
  | (a, b, hp, ct) :: l, o, h => by
    have go : ∀ {o : Option Nat}, am_hand own pc E l = some o → ((¬ (a ≤ pc ∧ pc < b)) ∨ ∃ E2 p, am_find ct (am_qT own) = some (E2, p) ∧ E2 ≠ E) → match o with
      | none => ∀ z ∈ (a, b, hp, ct) :: l, (¬ (z.1 ≤ pc ∧ pc < z.2.1)) ∨ ∃ E2 p, am_find z.2.2.2 (am_qT own) = some (E2, p) ∧ E2 ≠ E
      | some hp2 => ∃ pre x suf, (a, b, hp, ct) :: l = pre ++ x :: suf ∧ (∀ z ∈ pre, (¬ (z.1 ≤ pc ∧ pc < z.2.1)) ∨ ∃ E2 p, am_find z.2.2.2 (am_qT own) = some (E2, p) ∧ E2 ≠ E) ∧ (x.1 ≤ pc ∧ pc < x.2.1) ∧ x.2.2.1 = hp2 ∧ ∃ p, am_find x.2.2.2 (am_qT own) = some (E, p) := by
      intro o h hz
      have ih := am_hand_split h
      cases o with
      | none =>
        intro z hz2
        rcases List.mem_cons.mp hz2 with rfl | hz2
        · exact hz
        · exact ih z hz2
      | some hp2 =>
        obtain ⟨pre, x, suf, e1, e2, e3, e4, e5⟩ := ih
        refine ⟨(a, b, hp, ct) :: pre, x, suf, by rw [e1]; rfl, fun z hz2 => ?_, e3, e4, e5⟩
        rcases List.mem_cons.mp hz2 with rfl | hz2
        · exact hz
        · exact e2 z hz2
    unfold am_hand at h
    split at h
    next hcov =>
      split at h
      next E2 p hf =>
        split at h
        next hE =>
          cases h
          subst hE
          exact ⟨[], (a, b, hp, ct), l, rfl, fun z hz => by (cases hz), hcov, rfl, p, hf⟩
        next hE => exact go h (Or.inr ⟨E2, p, hf, hE⟩)
      next => cases h
    next hcov => exact go h (Or.inl hcov)
section AMC
variable {p : Program} {l : Launch} {e : Env} {R : Room} {s : State} {m : MethodId} {args : Array Value} {below : List Frame} {meth : Method} {c : Code} {H : Heap} {locs : List Loc} {cells slots : Nat} {Q : State → Prop}
variable {D : va_G} {cT : Nat → ClassId} {A : Nat → Prop} {ba : Nat → Nat} {sx : Nat → Nat} {tq : Nat → Option String} {L : Nat} {xs : Nat → Int32} {ex : List Cond} {EV : State → Heap → Prop} {mt : am_M1} {d pc : Nat} {ls : Array Slot}
/-- behind a call: its value, or what it threw -/
theorem am_callG {A1 : Nat → Prop} {sx1 : Nat → Nat} {N : Nat} {r : am_R} {st0 rest : List Value} {a : Array Value} {mc ms : Nat} (hr : vx_Run p l e R s m args below meth c H locs cells slots mc ms (F0 m pc ls st0) rest (am_Qc D cT A1 ba sx1 N r a) (am_Xc D cT A1 ba sx1 N r) A1) (hS : va_S A s.heap H locs) (hAA : ∀ q, A1 q → A q)
    (kk : ∀ (v : Option Value) (ba2 : Nat → Nat) (H1 : Heap) (locs1 : List Loc), r.1 = .inl v → (∀ i, i < N → ba2 i = ba i) → am_Wd D cT ba2 sx1 A1 r.2.1 H1 → va_S A s.heap H1 locs1 → W p l e R s m args below meth c H1 locs1 (cells + mc) (slots + ms) Q (F0 m (pc + 3) ls ((v.map (am_v ba2 sx1)).toList ++ rest)))
    (kx : ∀ (i : Nat) (ba2 : Nat → Nat) (ce : Cell) (q9 : Addr) (H1 : Heap) (locs1 : List Loc), 0 < i → i < 6 → r.1 = .inr i → (∀ j, j < N → ba2 j = ba j) → am_Wd D cT ba2 sx1 A1 r.2.1 H1 → va_S A s.heap H1 locs1 → H1[q9]? = some ce → ce.vm = .none → s.vm.findClass (am_en i) = some ce.cls → vx_W p l e R s m args below meth c H1 locs1 (cells + mc) (slots + ms) Q (F0 m pc ls rest) q9) :
    W p l e R s m args below meth c H locs cells slots Q (F0 m pc ls st0) := by
  intro T hT X
  rcases hr T hT X with ⟨v, st₀, t, T', L9, h0, X', hL, e1, e2, ⟨v0, ba2, hr0, hba, hv, hb, hF⟩, st⟩ | ⟨q, st₀, t, T', L9, E, ce, h0, X', hL, e1, e2, ⟨i, ba2, hi, hr0, hba, hE, hb, hF⟩, hce, hcv, hcl, st⟩
  · cases hv
    obtain ⟨k1, k2, k3⟩ := vx_keep h0 e1 hS (fun q _ h => hAA q h) (fun q h => hAA q h) hL hF
    obtain ⟨t2, a1, b1⟩ := kk v0 ba2 T'.heap (locs ++ L9) hr0 hba (by rw [e1]; exact hb) k3 T' rfl X'
    exact ⟨t2, st t2 a1, b1⟩
  · subst hE
    obtain ⟨k1, k2, k3⟩ := vx_keep h0 e1 hS (fun q _ h => hAA q h) (fun q h => hAA q h) hL hF
    obtain ⟨t2, a1, b1⟩ := kx i ba2 ce q T'.heap (locs ++ L9) hi.1 hi.2 hr0 hba (by rw [e1]; exact hb) k3 (by rw [e1]; exact hce) hcv hcl T' rfl X'
    exact ⟨t2, st.trans a1, b1⟩
/-- a method's end -/
theorem am_ret_W {ins : Instr} {len mc ms : Nat} {st : List Value} {v : Option Value} {h : am_H} {N : Nat} {r : am_R} (F : am_FF D cT A sx L xs ex EV p R s m args meth c mt d) (hd : decode (am_b mt) pc = .ok (ins, len)) (hlo : am_lo ins len = true) (hW : am_Wd D cT ba sx A h H) (hS : va_S A s.heap H locs)
    (hv : am_ret (am_rt mt) ins st = some v) (hr1 : r.1 = .inl v) (hr2 : r.2.1 = h) (hc : cells ≤ mc) (hs : slots ≤ ms) :
    W p l e R s m args below meth c H locs cells slots (vx_MQ below (am_Qc D cT A ba sx N r) (am_Xc D cT A ba sx N r) args s mc ms A) (F0 m pc ls (st.map (am_v ba sx))) := by
  obtain ⟨⟨hx, hb, hr, hml, hown, hlk, htb, hnm⟩, -, -⟩ := F
  refine W.widen hc hs (vx_ret ?_)
  have hq : ∀ (t : State), t.heap = H → s.WarmedH t.vm → am_Qc D cT A ba sx N r args s (.returned (v.map (am_v ba sx))) t := fun t ht hWm => ⟨v, ba, hr1, fun _ _ => rfl, rfl, by rw [hr2, ht]; exact hW, hS.F ht⟩
  cases ins
  all_goals first | (exfalso; simp only [am_ret] at hv; cases hv; done) | skip
  all_goals (simp only [am_lo, beq_iff_eq] at hlo; subst hlo; simp only [am_ret] at hv)
  case return_ =>
    split at hv
    next =>
      split at hv
      next hrt => cases hv; exact W.vret hx hb (hr.trans hrt) hq hS.2.2 hd
      next => cases hv
    next => cases hv
  case ireturn =>
    split at hv
    next x =>
      split at hv
      next t hrt =>
        split at hv
        next hn => cases hv; exact W.zret hx hb (hr.trans hrt) hn hq hS.2.2 hd
        next => cases hv
      next => cases hv
    next => cases hv
  case areturn =>
    split at hv
    next a =>
      split at hv
      next n hrt => cases hv; exact W.aret hx hb (hr.trans hrt) (Or.inl ⟨n, rfl⟩) (Or.inr ⟨_, rfl⟩) hq hS.2.2 hd
      next n hrt => cases hv; exact W.aret hx hb (hr.trans hrt) (Or.inr ⟨n, rfl⟩) (Or.inr ⟨_, rfl⟩) hq hS.2.2 hd
      next => cases hv
    next a =>
      split at hv
      next n hrt => cases hv; exact W.aret hx hb (hr.trans hrt) (Or.inl ⟨n, rfl⟩) (Or.inr ⟨_, rfl⟩) hq hS.2.2 hd
      next => cases hv
    next => cases hv
  case freturn =>
    split at hv
    next x =>
      split at hv
      next hrt => cases hv; exact W.fret hx hb (hr.trans hrt) hq hS.2.2 hd
      next => cases hv
    next => cases hv
  case dreturn =>
    split at hv
    next x =>
      split at hv
      next hrt => cases hv; exact W.dret hx hb (hr.trans hrt) hq hS.2.2 hd
      next => cases hv
    next => cases hv
end AMC
