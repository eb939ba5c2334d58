/-! THE JDK'S STRINGBUILDER, 1: worlds of builders, calls -/
def js_cl : List vw_C := [(RJ4, TJ4, 4), (RJ0, TJ0, 4)]
def js_ty (cB : ClassId) : List (ClassId × FieldType) := [(cB, .byte)]
/-- a builder b of n signs over a row d of cap bytes f -/
def js_b (cB : ClassId) (b d cap n : Nat) (ml : Int32) (f : Nat → Int32) : va_W := [(b, .inr (0, [.ref d, .int 0, .int ml, .int (Int32.ofNat n)])), (d, .inl (cB, cap, .inl f))]
def js_Pc (D : va_G) (cB : ClassId) (A : Nat → Prop) (EV : State → Heap → Prop) (as : List Value) (ws : va_W) : Array Value → State → Prop := fun a U => a = as.toArray ∧ va_P D js_cl ws U.heap ∧ va_D A ws ∧ va_K D js_cl (js_ty cB) U ∧ (∀ q : Nat, U.heap.size ≤ q → A q) ∧ EV U U.heap
def js_Q (D : va_G) (A : Nat → Prop) (post : Option Value → va_W → Prop) : Array Value → State → Outcome → State → Prop := fun _ st oc t => (∃ (v : Option Value) (ws : va_W), oc = .returned v ∧ post v ws ∧ va_P D js_cl ws t.heap ∧ va_D A ws) ∧ va_F A st t
section JS
variable {D : va_G} {cB : ClassId} {A : Nat → Prop} {EV : State → Heap → Prop}
theorem js_fb (hm : am_EVm A EV) {as : List Value} {ws : va_W} : FrameBlind (js_Pc D cB A EV as ws) := fun a U g mk q => ⟨q.1, q.2.1, q.2.2.1, va_K.moved (u := U) (U := U.calling g mk a) (Vm.Alike.refl U.vm) q.2.2.2.1, q.2.2.2.2.1, hm.1 U (U.calling g mk a) _ (State.WarmedH.refl U) q.2.2.2.2.2⟩
theorem js_pre (hm : am_EVm A EV) {s : State} {H : Heap} {as : List Value} {ws : va_W} (hP : va_P D js_cl ws H) (hD : va_D A ws) (hK : va_K D js_cl (js_ty cB) s) (hA : ∀ q : Nat, H.size ≤ q → A q) (hE : EV s H) : ∀ U : State, U.heap = H → s.WarmedH U.vm → js_Pc D cB A EV as ws as.toArray U := fun U hU hW =>
  ⟨rfl, by rw [hU]; exact hP, hD, va_K.moved hW.alike hK, by rw [hU]; exact hA, by rw [hU]; exact hm.1 s U H hW hE⟩
theorem js_E (hm : am_EVm A EV) {s : State} {H : Heap} {locs : List Loc} (hS : va_S A s.heap H locs) (hE : EV s s.heap) : EV s H := hm.2 s s.heap H (fun a h1 h2 => hS.2.1 a h1 h2) hE
theorem js_A {H0 H : Heap} {locs : List Loc} (hS : va_S A H0 H locs) (hA : ∀ q : Nat, H0.size ≤ q → A q) : ∀ q : Nat, H.size ≤ q → A q := fun q h => hA q (Nat.le_trans hS.1 h)
end JS
section JSC
variable {p : Program} {l : Launch} {e : Env} {R : Room} {s : State} {m : MethodId} {args : Array Value} {below : List Frame} {meth : Method} {c : Code} {H : Heap} {locs : List Loc} {cells slots : Nat} {Q : State → Prop}
variable {pc : Nat} {ls : Array Slot} {rest st0 : List Value} {a : Array Value} {A : Nat → Prop} {H0 : Heap} {mc ms : Nat} {D : va_G} {post : Option Value → va_W → Prop}
/-- a call of such a method: what it answers, the world behind it -/
theorem js_call (hr : va_Run p l e R s m args below meth c H locs cells slots mc ms (F0 m pc ls st0) rest (js_Q D A post a) A) (hS : va_S A H0 H locs)
    (k : ∀ (v : Option Value) (ws : va_W) (H1 : Heap) (locs1 : List Loc), post v ws → va_P D js_cl ws H1 → va_D A ws → va_S A H0 H1 locs1 → W p l e R s m args below meth c H1 locs1 (cells + mc) (slots + ms) Q (F0 m (pc + 3) ls (v.toList ++ rest))) : W p l e R s m args below meth c H locs cells slots Q (F0 m pc ls st0) := by
  intro T hT X
  obtain ⟨v, st₀, t, T', L, h0, X', hL, e1, e2, ⟨⟨v2, ws, hv, hp, hP, hD⟩, hz, hk⟩, st⟩ := hr T hT X
  cases hv
  rw [h0] at hz hk
  obtain ⟨t2, a1, b1⟩ := k v ws T'.heap (locs ++ L) hp (by rw [e1]; exact hP) hD
    ⟨Nat.le_trans hS.1 (by rw [e1]; exact hz), fun q h1 h2 => by rw [e1, hk q (Nat.lt_of_lt_of_le h1 hS.1) h2]; exact hS.2.1 q h1 h2, fun q hq => by
      rcases List.mem_append.mp hq with h | h
      · exact hS.2.2 q h
      · exact hL q h⟩ T' rfl X'
  exact ⟨t2, st t2 a1, b1⟩
end JSC
/-- a private method is what a call of it selects, for any class of which another method of its own class is selected -/
theorem js_selp {y x z : MethodName} {C : String} {s : State} {args : Array Value} (hy : y.cls ≠ "java/lang/invoke/MethodHandle" ∧ y.cls ≠ "java/lang/invoke/VarHandle") (hz : (Cond.selects C x z).before args s = true) (hcl : z.cls = y.cls) (hpriv : (Cond.privateMethod y).before args s = true) (hinst : (Cond.instanceMethod y).before args s = true) : (Cond.selects C y y).before args s = true := by
  obtain ⟨c, r, mz, hc, -, hzn, -, kz, hkz, hni⟩ := Cond.selects_spec hz
  obtain ⟨mk, methM, hnamed, hmethM, -, -⟩ := Cond.instanceMethod_spec hinst
  have hfound : s.methodFound? y.cls y.name y.desc = some mk := State.methodFound?_of_named hnamed hy
  have hsel : selectMethod {} s.vm c mk = .method mk := selectMethod_private hmethM (Cond.privateMethod_at hpriv mk methM hnamed hmethM)
  have h1 := findClass_of_methodNamed hnamed
  have h2 := findClass_of_methodNamed hzn
  rw [hcl] at h2
  have h3 : mk.cls = mz.cls := Option.some.inj (h1.symm.trans h2)
  simp only [Cond.before, Cond.holds, Cond.value, hc, hfound, hnamed, hsel, h3, hkz]
  simp
  exact hni
/-- the receiver's cell, out of the world -/
theorem js_recv {D : va_G} {cB : ClassId} {s : State} {H : Heap} {ws : va_W} {b : Nat} {fs : List Value} (hK : va_K D js_cl (js_ty cB) s) (hP : va_P D js_cl ws H) (k : Nat) (h : ws[k]? = some (b, .inr (0, fs))) : ∃ cell : Cell, H[b]? = some cell ∧ cell.vm.isStatics = false ∧ s.vm.findClass RJ4 = some cell.cls :=
  va_recv hK hP (q := (RJ4, TJ4, 4)) rfl h
/-- a new row of bytes is of the class of rows of bytes -/
theorem js_cB {D : va_G} {cB cA : ClassId} {s : State} {tys : List (ClassId × FieldType)} (hK : va_K D js_cl (js_ty cB) s) (hK1 : va_K D js_cl (tys ++ [(cA, .byte)]) s) : cA = cB := by
  have h1 : s.vm.findClass ("[" ++ (FieldType.byte).toString) = some cB := (hK.2 0 (cB, .byte) rfl).2
  have h2 : s.vm.findClass ("[" ++ (FieldType.byte).toString) = some cA := (hK1.2 tys.length (cA, .byte) (by rw [List.getElem?_append_right (Nat.le_refl _), Nat.sub_self]; rfl)).2
  exact Option.some.inj (h2.symm.trans h1)
