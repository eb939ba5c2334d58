/-! THE JVM ANSWERS WHAT THE SMALL MACHINE ANSWERS, 3: the instructions that touch the heap -/
theorem am_w_push {cT : Nat → ClassId} {ba ba2 : Nat → Nat} {sx : Nat → Nat} {h h2 : am_H} {e2 : am_E} {E : va_E} {a : Nat} (ha : a = ba2 h.1.length) (hb : ∀ i, i < h.1.length → ba2 i = ba i) (h1 : h2.1 = h.1 ++ [e2]) (hE : am_x cT ba2 sx h2 h.1.length e2 = E) (ho : ∀ (j : Nat) (e : am_E), j < h.1.length → h.1[j]? = some e → am_x cT ba2 sx h2 j e = am_x cT ba sx h j e) :
    am_w cT ba sx h ++ [(a, E)] = am_w cT ba2 sx h2 := by
  subst ha
  apply List.ext_getElem?
  intro j
  have hlen : (am_w cT ba sx h).length = h.1.length := by unfold am_w; rw [List.length_mapIdx]
  by_cases hj : j < h.1.length
  · rw [List.getElem?_append_left (by rw [hlen]; exact hj)]
    unfold am_w
    rw [List.getElem?_mapIdx, List.getElem?_mapIdx, h1, List.getElem?_append_left hj]
    cases he : h.1[j]? with
    | none => rfl
    | some e =>
      show some (ba j, am_x cT ba sx h j e) = some (ba2 j, am_x cT ba2 sx h2 j e)
      rw [ho j e hj he, hb j hj]
  · rw [List.getElem?_append_right (by rw [hlen]; omega), hlen]
    unfold am_w
    rw [List.getElem?_mapIdx, h1, List.getElem?_append_right (by omega)]
    by_cases hz : j - h.1.length = 0
    · have hj2 : j = h.1.length := by omega
      rw [hz, List.getElem?_cons_zero, List.getElem?_cons_zero, ← hE, hj2]
      rfl
    · rw [List.getElem?_eq_none (by simp; omega), List.getElem?_eq_none (by simp; omega)]
      rfl
theorem am_v_ext {N : Nat} {ba ba2 : Nat → Nat} {sx : Nat → Nat} {v : Value} (hv : am_wv N v) (hb : ∀ i, i < N → ba2 i = ba i) : am_v ba2 sx v = am_v ba sx v := by
  cases v <;> first | rfl | (show Value.ref (ba2 _) = Value.ref (ba _); rw [hb _ hv])
theorem am_st_ext {N : Nat} {ba ba2 : Nat → Nat} {sx : Nat → Nat} {st : List Value} (hv : am_wt1 N st) (hb : ∀ i, i < N → ba2 i = ba i) : st.map (am_v ba2 sx) = st.map (am_v ba sx) := List.map_congr_left (fun v q => am_v_ext (hv v q) hb)
theorem am_lh_ext {N nL : Nat} {ba ba2 : Nat → Nat} {sx : Nat → Nat} {ls : Array Slot} {lv : am_L} (hv : am_wl N lv) (hb : ∀ i, i < N → ba2 i = ba i) (h : am_lh ba sx ls nL lv) : am_lh ba2 sx ls nL lv := ⟨h.1, h.2.1, h.2.2.1, fun i v q => by rw [am_v_ext (hv i v q) hb]; exact h.2.2.2 i v q⟩
/-- the cells of the shape don't speak of addresses to come, nor of things outside -/
theorem am_x_ext {cT : Nat → ClassId} {ba ba2 : Nat → Nat} {sx sx2 : Nat → Nat} {h : am_H} {j : Nat} {e : am_E} (hw : am_wh h.1) (he : h.1[j]? = some e) (hb : ∀ i, i < h.1.length → ba2 i = ba i) : am_x cT ba2 sx2 h j e = am_x cT ba sx h j e := by
  unfold am_x
  rcases e with ⟨k, n⟩ | ⟨ci, fs⟩
  · rfl
  · dsimp only
    congr 2
    apply List.ext_getElem?
    intro k
    rw [List.getElem?_mapIdx, List.getElem?_mapIdx]
    cases hk : fs[k]? with
    | none => rfl
    | some o =>
      cases o with
      | none => rfl
      | some v =>
        rcases hw j ci fs he k v hk with rfl | ⟨a, ha, rfl⟩
        · rfl
        · show some (Value.ref (ba2 a)) = some (Value.ref (ba a))
          rw [hb a ha]
theorem am_w_ext {cT : Nat → ClassId} {ba ba2 : Nat → Nat} {sx sx2 : Nat → Nat} {h : am_H} (hw : am_wh h.1) (hb : ∀ i, i < h.1.length → ba2 i = ba i) : am_w cT ba2 sx2 h = am_w cT ba sx h := by
  apply List.ext_getElem?
  intro j
  unfold am_w
  rw [List.getElem?_mapIdx, List.getElem?_mapIdx]
  cases he : h.1[j]? with
  | none => rfl
  | some e =>
    show some (ba2 j, am_x cT ba2 sx2 h j e) = some (ba j, am_x cT ba sx h j e)
    rw [am_x_ext hw he hb, hb j (List.getElem?_eq_some_iff.mp he).1]
theorem am_v_ref (ba : Nat → Nat) (sx : Nat → Nat) (i : Nat) : am_v ba sx (.ref i) = .ref (ba i) := rfl
theorem am_v_big (ba : Nat → Nat) (sx : Nat → Nat) (i : Nat) : am_v ba sx (.retAddr i) = .ref (sx i) := rfl
theorem am_set_P {D : va_G} {w w2 : va_W} {H1 : Heap} (h : w = w2) (hP : va_P D am_cl w H1) : va_P D am_cl w2 H1 := h ▸ hP
theorem am_nar_ok {ty : FieldType} {v : Value} {ba : Nat → Nat} {sx : Nat → Nat} (h : am_nar ty v = true) : narrow ty (am_v ba sx v) = am_v ba sx v ∧ fits ty (am_v ba sx v) = true := by
  cases ty <;> cases v <;> first | (simp only [am_nar] at h; cases h; done) | skip
  case int.int x => exact ⟨rfl, rfl⟩
  case boolean.int x =>
    simp only [am_nar, Bool.or_eq_true, decide_eq_true_eq] at h
    have g0 : narrow .boolean (.int 0) = .int 0 ∧ fits .boolean (.int 0) = true := by decide +kernel
    have g1 : narrow .boolean (.int 1) = .int 1 ∧ fits .boolean (.int 1) = true := by decide +kernel
    rcases h with rfl | rfl
    · exact g0
    · exact g1
  case object.ref n a => exact ⟨rfl, rfl⟩
  case array.ref n a => exact ⟨rfl, rfl⟩
theorem am_cs_map (ba : Nat → Nat) (sx : Nat → Nat) (st : List Value) : ((st.map (am_v ba sx)).map fun v => v.category).sum = am_cs st := by
  unfold am_cs
  rw [List.map_map]
  congr 1
  apply List.map_congr_left
  intro v _
  exact am_v_cat ba sx v
theorem am_in_of {j : Int32} {n : Nat} (h : am_in j n = true) : vp_in j n := by
  have h2 := of_decide_eq_true h
  exact h2
/-- a String constant's members -/
def am_strL (l : Launch) (A : Nat → Prop) (sx : Nat → Nat) (tq : Nat → Option String) (ex : List Cond) (EV : State → Heap → Prop) : Prop :=
  ∀ {p : Program} {e : Env} {R : Room} {s : State} {m : MethodId} {args : Array Value} {below : List Frame} {meth : Method} {c : Code} {H : Heap} {locs : List Loc} {cells slots : Nat} {Q : State → Prop} {cc : ByteArray} {pc : Nat} {ls : Array Slot} {rest : List Value} {own ix i : Nat} {tx : String} (b : Nat),
    p.tables.exec = Jvm.exec → c.code = cc → c.maxLocals = ls.size → s.vm.findClass (am_cn own) = some m.cls → (∀ w ∈ am_WS ex, w.before args s = true) → EV s s.heap → va_S A s.heap H locs → b = 4 →
    (Cond.methodLink (am_cn own) ix (am_bn 4)).before args s = true → tq i = some tx → (rest.map fun v => v.category).sum ≤ 8 → 6 ≤ R.frames → 200 ≤ R.locals → cells ≤ R.cells → slots ≤ R.slots → decode cc pc = .ok (.invokevirtual ix, 3) →
    (∀ (H1 : Heap) (locs1 : List Loc), H1 = H → locs1 = locs → W p l e R s m args below meth c H1 locs1 cells slots Q (F0 m (pc + 3) ls (.int (Int32.ofNat tx.length) :: rest))) → W p l e R s m args below meth c H locs cells slots Q (F0 m pc ls (.ref (sx (i + 1)) :: rest))
def am_strC (l : Launch) (A : Nat → Prop) (sx : Nat → Nat) (tq : Nat → Option String) (ex : List Cond) (EV : State → Heap → Prop) : Prop :=
  ∀ {p : Program} {e : Env} {R : Room} {s : State} {m : MethodId} {args : Array Value} {below : List Frame} {meth : Method} {c : Code} {H : Heap} {locs : List Loc} {cells slots : Nat} {Q : State → Prop} {cc : ByteArray} {pc : Nat} {ls : Array Slot} {rest : List Value} {own ix i : Nat} {tx : String} {ch : Char} {j : Int32},
    p.tables.exec = Jvm.exec → c.code = cc → c.maxLocals = ls.size → s.vm.findClass (am_cn own) = some m.cls → (∀ w ∈ am_WS ex, w.before args s = true) → EV s s.heap → va_S A s.heap H locs →
    (Cond.methodLink (am_cn own) ix (am_bn 5)).before args s = true → tq i = some tx → am_in j tx.length = true → tx.toList[j.toNatClampNeg]? = some ch → (rest.map fun v => v.category).sum ≤ 8 → 6 ≤ R.frames → 200 ≤ R.locals → cells ≤ R.cells → slots ≤ R.slots → decode cc pc = .ok (.invokevirtual ix, 3) →
    (∀ (H1 : Heap) (locs1 : List Loc), H1 = H → locs1 = locs → W p l e R s m args below meth c H1 locs1 cells slots Q (F0 m (pc + 3) ls (.int (Int32.ofNat ch.toNat) :: rest))) → W p l e R s m args below meth c H locs cells slots Q (F0 m pc ls (.int j :: .ref (sx (i + 1)) :: rest))
/-- a String constant's cell is what its places say -/
def am_strR (sx : Nat → Nat) (EV : State → Heap → Prop) : Prop := ∀ (U : State) (H : Heap) (own ix i : Nat), EV U H → am_find ix (am_sT own) = some i → ∃ tx : String, vk_R (am_cn own) ix tx (sx (i + 1)) U
/-- the words of nest mates hold -/
def am_nwR (EV : State → Heap → Prop) : Prop := ∀ (U : State) (H : Heap), EV U H → (∀ o, o < 12 → ∀ q ∈ am_fN o, va_Nw (am_nwF o q) U) ∧ ∀ o, ∀ q ∈ am_iN o, va_Nw (am_nwM o q) U
theorem am_fld_some {o ix : Nat} {q : Nat × Nat} (h : am_fld o ix = some q) : (∃ pl, (ix, q.1, q.2, pl) ∈ am_fT o) ∨ (ix, q.1, q.2) ∈ am_fN o := by
  unfold am_fld at h
  split at h
  next q9 hf =>
    obtain ⟨a, b, pl⟩ := q9
    cases h
    exact Or.inl ⟨pl, am_find_mem hf⟩
  next => exact Or.inr (am_find_mem h)
/-- what holds in a method's frame all the time -/
def am_FF (D : va_G) (cT : Nat → ClassId) (A : Nat → Prop) (sx : Nat → Nat) (L : Nat) (xs : Nat → Int32) (ex : List Cond) (EV : State → Heap → Prop) (p : Program) (R : Room) (s : State) (m : MethodId) (args : Array Value) (meth : Method) (c : Code) (mt : am_M1) (d : Nat) : Prop :=
  (p.tables.exec = Jvm.exec ∧ c.code = am_b mt ∧ meth.sig.returnType = am_rt mt ∧ c.maxLocals = am_mL mt ∧ s.vm.findClass (am_cn (am_own mt)) = some m.cls ∧ meth.locks = false ∧ c.exceptionTable.toList = tableOf (am_hh mt) ∧ meth.name = (am_y mt).name) ∧
  ((∀ w ∈ am_WS ex, w.before args s = true) ∧ va_K D am_cl (am_tys cT) s ∧ va_X (sx 0) L xs s s.heap ∧ (sx 0 < s.heap.size ∧ ¬ A (sx 0)) ∧ (∀ q : Nat, s.heap.size ≤ q → A q) ∧ EV s s.heap) ∧
  (am_dec mt ∧ am_own mt < 12 ∧ am_mL mt ≤ 21 ∧ d + 6 ≤ R.frames ∧ 40 * d + 200 ≤ R.locals)
/-- the world -/
def am_Wd (D : va_G) (cT : Nat → ClassId) (ba : Nat → Nat) (sx : Nat → Nat) (A : Nat → Prop) (h : am_H) (H : Heap) : Prop := va_P D am_cl (am_w cT ba sx h) H ∧ (∀ i j, i < h.1.length → j < h.1.length → ba i = ba j → i = j) ∧ ∀ i, i < h.1.length → A (ba i)
theorem am_Wd.lt {D : va_G} {cT : Nat → ClassId} {ba : Nat → Nat} {sx : Nat → Nat} {A : Nat → Prop} {h : am_H} {H : Heap} (hW : am_Wd D cT ba sx A h H) {i : Nat} (hi : i < h.1.length) : ba i < H.size := by
  have h1 : h.1[i]? = some h.1[i] := List.getElem?_eq_getElem hi
  exact (hW.1 i _ (am_w_get (cT := cT) (ba := ba) (sx := sx) h1)).lt
theorem am_in_up {ba : Nat → Nat} {a : Nat} {sh : List am_E} {e : am_E} (hin : ∀ i j, i < sh.length → j < sh.length → ba i = ba j → i = j) (hlt : ∀ i, i < sh.length → ba i < a) : ∀ i j, i < (sh ++ [e]).length → j < (sh ++ [e]).length → (fun j => if j = sh.length then a else ba j) i = (fun j => if j = sh.length then a else ba j) j → i = j := by
  intro i j hi hj hij
  rw [List.length_append] at hi hj
  simp only [List.length_cons, List.length_nil] at hi hj
  dsimp only at hij
  by_cases h1 : i = sh.length
  · by_cases h2 : j = sh.length
    · rw [h1, h2]
    · rw [if_pos h1, if_neg h2] at hij
      have := hlt j (by omega)
      omega
  · by_cases h2 : j = sh.length
    · rw [if_neg h1, if_pos h2] at hij
      have := hlt i (by omega)
      omega
    · rw [if_neg h1, if_neg h2] at hij
      exact hin i j (by omega) (by omega) hij
theorem am_AA_up {ba : Nat → Nat} {a : Nat} {A : Nat → Prop} {sh : List am_E} {e : am_E} (hAA : ∀ i, i < sh.length → A (ba i)) (ha : A a) : ∀ i, i < (sh ++ [e]).length → A ((fun j => if j = sh.length then a else ba j) i) := by
  intro i hi
  rw [List.length_append] at hi
  simp only [List.length_cons, List.length_nil] at hi
  dsimp only
  by_cases h1 : i = sh.length
  · rw [if_pos h1]; exact ha
  · rw [if_neg h1]; exact hAA i (by omega)
section AMI
variable {p : Program} {l : Launch} {e : Env} {R : Room} {s : State} {m : MethodId} {args : Array Value} {below : List Frame} {meth : Method} {c : Code} {H : Heap} {locs : List Loc} {cells slots : Nat} {Q : State → Prop}
variable {D : va_G} {cT : Nat → ClassId} {A : Nat → Prop} {ba : Nat → Nat} {sx : Nat → Nat} {tq : Nat → Option String} {L : Nat} {xs : Nat → Int32} {ex : List Cond} {EV : State → Heap → Prop} {mt : am_M1} {d pc : Nat} {ls : Array Slot}
theorem am_ldcSW {cc : ByteArray} {rest : List Value} (hexec : p.tables.exec = Jvm.exec) (hb : c.code = cc) {own tx : String} {index q : Nat} (hown : s.vm.findClass own = some m.cls) (hZ : vk_R own index tx q s) (hdg : decode cc pc = .ok (.ldc_w index, 3))
    (k : W p l e R s m args below meth c H locs cells slots Q (F0 m (pc + 3) ls (.ref q :: rest))) : W p l e R s m args below meth c H locs cells slots Q (F0 m pc ls rest) := by
  intro T hT X
  obtain ⟨t, a1, b1⟩ := k T hT X
  exact ⟨t, X.ldcStringW hexec hown (text := tx) (a := q) hZ.1 hZ.2 (g := F0 m pc ls rest) rfl (by rw [hb]; exact hdg) t a1, b1⟩
set_option maxHeartbeats 8000000 in
theorem am_heap_W (hSL : am_strL l A sx tq ex EV) (hSC : am_strC l A sx tq ex EV) (hSR : am_strR sx EV) (hNW : am_nwR EV) {ins : Instr} {len : Nat} {st st2 : List Value} {h h2 : am_H} {ph ph2 : Bool} {c2 s2 : Nat} (F : am_FF D cT A sx L xs ex EV p R s m args meth c mt d) (hls : ls.size = am_mL mt) (hd : decode (am_b mt) pc = .ok (ins, len)) (hlo : am_lo ins len = true)
    (hW : am_Wd D cT ba sx A h H) (hst : am_wt1 h.1.length st) (hwh : am_wh h.1) (hS : va_S A s.heap H locs) (hs : am_heap L xs tq mt ins st h ph = some (st2, h2, ph2, c2, s2)) (hc : cells + c2 ≤ R.cells) (hsl : slots + s2 ≤ R.slots)
    (k : ∀ (ba2 : Nat → Nat) (H1 : Heap) (locs1 : List Loc), (∀ i, i < h.1.length → ba2 i = ba i) → am_Wd D cT ba2 sx A h2 H1 → va_S A s.heap H1 locs1 → W p l e R s m args below meth c H1 locs1 (cells + c2) (slots + s2) Q (F0 m (pc + len) ls (st2.map (am_v ba2 sx)))) :
    W p l e R s m args below meth c H locs cells slots Q (F0 m pc ls (st.map (am_v ba sx))) := by
  obtain ⟨⟨hx, hb, hr, hml, hown, hlk, htb, hnm⟩, ⟨hts, hK, hX, ⟨hbl, hbA⟩, hA, hEV⟩, ⟨hdec, ho, hmL, hfr, hlc⟩⟩ := F
  have hlt : ∀ i, i < h.1.length → ba i < H.size := fun i hi => hW.lt hi
  obtain ⟨hP, hin0, hAA⟩ := hW
  have hD := am_w_D cT ba sx h hin0 hAA
  have wrd : ∀ {pl : Nat} {w : Cond}, am_at pl = some w → w.before args s = true := fun hp => hts _ (am_WS_at hp)
  cases ins
  all_goals first | (exfalso; simp only [am_heap] at hs; cases hs; done) | skip
  case getfield ix =>
    simp only [am_lo, beq_iff_eq] at hlo
    subst hlo
    simp only [am_heap] at hs
    split at hs
    next i st3 =>
      split at hs
      next q9 hf =>
        obtain ⟨ci, k0⟩ := q9
        dsimp only at hs
        split at hs
        next cj fs he =>
          split at hs
          next hi =>
            subst hi
            have hg := am_w_get (cT := cT) (ba := ba) (sx := sx) he
            have key : ∀ v : Value, (fs.mapIdx fun j o => am_fv ba sx (h.2.1 i j) o)[k0]? = some v → W p l e R s m args below meth c H locs cells slots Q (F0 m (pc + 3) ls (v :: st3.map (am_v ba sx))) → W p l e R s m args below meth c H locs cells slots Q (F0 m pc ls ((Value.ref i :: st3).map (am_v ba sx))) := by
              intro v hv kk
              rw [List.map_cons, am_v_ref]
              rcases am_fld_some hf with ⟨pl, hm⟩ | hm
              · obtain ⟨w1, w2, w3, w4⟩ := am_fT_ok _ ho _ hm
                have hlink := wrd w1
                dsimp only at w1 w2 w3 w4 hlink
                exact va_get (cl := am_cl) (ci := cj) hx hb hts (am_WS_lay w3) hown hK hP i hg (am_cl_at w3) k0 w2 hlink (fun x hx9 => by rw [w4] at hx9; exact hx9) hv hd kk
              · obtain ⟨w2, w3, w4, -⟩ := am_fN_ok _ ho _ hm
                have hlink := (hNW s s.heap hEV).1 _ ho _ hm
                dsimp only [am_nwF] at w2 w3 w4 hlink
                exact va_getN (cl := am_cl) (ci := cj) (host := RX9) hx hb hts (am_WS_lay w3) hown hK hP i hg (am_cl_at w3) k0 w2 (va_Nw.use rfl hlink) (fun x hx9 => by rw [w4] at hx9; exact hx9) hv hd kk
            split at hs
            next hk0 =>
              cases hs
              exact key (.int (h.2.1 i k0)) (by rw [List.getElem?_mapIdx, hk0]; rfl) (k ba H locs (fun _ _ => rfl) ⟨hP, hin0, hAA⟩ hS)
            next v hk0 =>
              split at hs
              next => cases hs; exact key (am_v ba sx v) (by rw [List.getElem?_mapIdx, hk0]; rfl) (k ba H locs (fun _ _ => rfl) ⟨hP, hin0, hAA⟩ hS)
              next => cases hs
            next => cases hs
          next => cases hs
        next => cases hs
      next => cases hs
    next => cases hs
  case putfield ix =>
    simp only [am_lo, beq_iff_eq] at hlo
    subst hlo
    simp only [am_heap] at hs
    split at hs
    next v i st3 =>
      split at hs
      next q9 hf =>
        obtain ⟨ci, k0, pl⟩ := q9
        dsimp only at hs
        split at hs
        next cj fs he =>
          split at hs
          next hi =>
            obtain ⟨rfl, hnar, hfin⟩ := hi
            obtain ⟨w1, w2, w3, w4⟩ := am_fT_ok _ ho _ (am_find_mem hf)
            have hg := am_w_get (cT := cT) (ba := ba) (sx := sx) he
            have hlink := wrd w1
            dsimp only at w1 w2 w3 w4 hlink
            have hi2 : i < h.1.length := (List.getElem?_eq_some_iff.mp he).1
            obtain ⟨n1, n2⟩ := am_nar_ok (ba := ba) (sx := sx) hnar
            have key : ∀ (fs2 : List (Option Value)) (h9 : am_H), h9.1 = h.1.set i (.inr (cj, fs2)) → k0 < fs.length → am_x cT ba sx h9 i (.inr (cj, fs2)) = .inr (cj, (fs.mapIdx fun j o => am_fv ba sx (h.2.1 i j) o).set k0 (am_v ba sx v)) → (∀ (j : Nat) (e : am_E), j ≠ i → h.1[j]? = some e → am_x cT ba sx h9 j e = am_x cT ba sx h j e) →
                (∀ (H1 : Heap) (locs1 : List Loc), am_Wd D cT ba sx A h9 H1 → va_S A s.heap H1 locs1 → W p l e R s m args below meth c H1 locs1 cells slots Q (F0 m (pc + 3) ls (st3.map (am_v ba sx)))) → W p l e R s m args below meth c H locs cells slots Q (F0 m pc ls ((v :: Value.ref i :: st3).map (am_v ba sx))) := by
              intro fs2 h9 e1 hk9 e2 e3 kk
              rw [List.map_cons, List.map_cons, am_v_ref]
              refine am_put (cl := am_cl) (ci := cj) hx hb hts (am_WS_lay w3) (am_tX cj) (am_tX_ok w3) (am_nX_ok w3) hown hK hP hD hS i hg (am_cl_at w3) k0 w2 (by rw [w4]; exact hlink) (hfin.imp id (fun q => ⟨hnm.trans q.1, by rw [w4, q.2]⟩)) n1 n2 (by rw [List.length_mapIdx]; exact hk9) hd (fun H1 locs1 z1 hP1 hS1 => kk H1 locs1 ⟨?_, by rw [e1, List.length_set]; exact hin0, by rw [e1, List.length_set]; exact hAA⟩ hS1)
              exact am_set_P (am_w_set hi2 e1 e2 e3) hP1
            split at hs
            next hk0 =>
              split at hs
              next x =>
                cases hs
                refine key fs (h.1, am_up h.2.1 i k0 x, h.2.2) (am_set_same he) (List.getElem?_eq_some_iff.mp hk0).1 ?_ (fun j e9 hj _ => am_x_cong e9 (am_up_other _ _ _ hj) rfl rfl) (fun H1 locs1 q1 q2 => k ba H1 locs1 (fun _ _ => rfl) q1 q2)
                unfold am_x
                dsimp only
                congr 2
                apply List.ext_getElem?
                intro j
                rw [List.getElem?_mapIdx]
                by_cases hj : k0 = j
                · subst hj
                  rw [List.getElem?_set_self (by rw [List.length_mapIdx]; exact (List.getElem?_eq_some_iff.mp hk0).1), hk0]
                  show some (Value.int (am_up h.2.1 i k0 x i k0)) = some (Value.int x)
                  rw [am_up_row]
                  simp
                · rw [List.getElem?_set_ne hj, List.getElem?_mapIdx]
                  cases fs[j]? with
                  | none => rfl
                  | some o =>
                    cases o with
                    | some v9 => rfl
                    | none =>
                      show some (Value.int (am_up h.2.1 i k0 x i j)) = some (Value.int (h.2.1 i j))
                      rw [am_up_row]
                      simp [Ne.symm hj]
              next => cases hs
            next v9 hk0 =>
              split at hs
              next a9 =>
                cases hs
                refine key (fs.set k0 (some (.ref a9))) (h.1.set i (.inr (cj, fs.set k0 (some (.ref a9)))), h.2) rfl (List.getElem?_eq_some_iff.mp hk0).1 ?_ (fun j e9 hj _ => am_x_cong e9 rfl rfl rfl) (fun H1 locs1 q1 q2 => k ba H1 locs1 (fun _ _ => rfl) q1 q2)
                unfold am_x
                dsimp only
                congr 2
                apply List.ext_getElem?
                intro j
                rw [List.getElem?_mapIdx]
                by_cases hj : k0 = j
                · subst hj
                  have hk9 := (List.getElem?_eq_some_iff.mp hk0).1
                  rw [List.getElem?_set_self hk9, List.getElem?_set_self (by rw [List.length_mapIdx]; exact hk9)]
                  rfl
                · rw [List.getElem?_set_ne hj, List.getElem?_set_ne hj, List.getElem?_mapIdx]
              next => cases hs
            next => cases hs
          next => cases hs
        next => cases hs
      next => cases hs
    next => cases hs
  case iaload =>
    simp only [am_lo, beq_iff_eq] at hlo
    subst hlo
    simp only [am_heap] at hs
    split at hs
    next j i st3 =>
      split at hs
      next k9 n he =>
        split at hs
        next hin =>
          obtain ⟨rfl, hin⟩ := hin
          cases hs
          have hg := am_w_get (cT := cT) (ba := ba) (sx := sx) he
          rw [List.map_cons, List.map_cons, am_v_ref]
          exact va_iald hx hb hK hP i 0 hg rfl (am_in_of hin) hd (k ba H locs (fun _ _ => rfl) ⟨hP, hin0, hAA⟩ hS)
        next => cases hs
      next => cases hs
    next j i st3 =>
      split at hs
      next hin =>
        obtain ⟨rfl, hin⟩ := hin
        cases hs
        rw [List.map_cons, List.map_cons, am_v_big]
        exact va_sld hx hb hX hbl hbA hS (am_in_of hin) hd (k ba H locs (fun _ _ => rfl) ⟨hP, hin0, hAA⟩ hS)
      next => cases hs
    next => cases hs
  case iastore =>
    simp only [am_lo, beq_iff_eq] at hlo
    subst hlo
    simp only [am_heap] at hs
    split at hs
    next x j i st3 =>
      split at hs
      next k9 n he =>
        split at hs
        next hi =>
          obtain ⟨rfl, hin⟩ := hi
          cases hs
          have hg := am_w_get (cT := cT) (ba := ba) (sx := sx) he
          rw [List.map_cons, List.map_cons, List.map_cons, am_v_ref]
          refine va_iast hx hb hK hP hD hS i 0 hg rfl (am_in_of hin) hd (fun H1 locs1 hP1 _ hS1 => k ba H1 locs1 (fun _ _ => rfl) ⟨?_, hin0, hAA⟩ hS1)
          refine am_set_P (am_w_set (h2 := (h.1, am_up h.2.1 i j.toNatClampNeg x, h.2.2)) (List.getElem?_eq_some_iff.mp he).1 (am_set_same he) ?_ ?_) hP1
          · show Sum.inl (cT 0, n, Sum.inl (am_up h.2.1 i j.toNatClampNeg x i)) = _
            rw [am_up_row]
            rfl
          · intro j9 e9 hj _
            exact am_x_cong e9 (am_up_other _ _ _ hj) rfl rfl
        next => cases hs
      next => cases hs
    next => cases hs
  case arraylength =>
    simp only [am_lo, beq_iff_eq] at hlo
    subst hlo
    simp only [am_heap] at hs
    split at hs
    next i st3 =>
      split at hs
      next k9 n he =>
        split at hs
        next hk9 =>
          cases hs
          have hg := am_w_get (cT := cT) (ba := ba) (sx := sx) he
          rw [List.map_cons, am_v_ref]
          subst hk9
          exact va_alen hx hb hK hP i 0 hg rfl rfl hd (k ba H locs (fun _ _ => rfl) ⟨hP, hin0, hAA⟩ hS)
        next => cases hs
      next => cases hs
    next i st3 =>
      split at hs
      next hi2 =>
        subst hi2
        cases hs
        rw [List.map_cons, am_v_big]
        exact va_slen hx hb hX hbl hbA hS hd (k ba H locs (fun _ _ => rfl) ⟨hP, hin0, hAA⟩ hS)
      next => cases hs
    next => cases hs
  case new ix =>
    simp only [am_lo, beq_iff_eq] at hlo
    subst hlo
    simp only [am_heap] at hs
    split at hs
    next q9 hf =>
      obtain ⟨ci, p9⟩ := q9
      dsimp only at hs
      obtain ⟨p1, p2, p3⟩ := p9
      obtain ⟨w1, w2, w3, w4⟩ := am_nT_ok _ ho _ (am_find_mem hf)
      have c1 := wrd w1
      have c2' := wrd w2
      have c3 := wrd w3
      dsimp only at w1 w2 w3 w4 c1 c2' c3
      cases hs
      obtain ⟨f1, f2⟩ := am_df_ok ci w4
      refine am_new (cl := am_cl) (ci := ci) (fs := (am_df ci).mapIdx fun j o => am_fv ba sx 0 o) hx hb hts (am_WS_lay w4) (am_tX ci) (am_tX_ok w4) hown c1 c2' c3 hK hP hS (am_cl_at w4) (fun j hj => ?_) hc hsl hd (fun H1 z1 hP1 hS1 => ?_)
      · obtain ⟨g1, g2⟩ := f2 j hj
        unfold vp_V
        rw [List.getD_eq_getElem?_getD, List.getElem?_mapIdx]
        rcases g2 with g2 | g2
        · rw [g2] at g1 ⊢
          exact Option.some.inj g1
        · rw [g2] at g1 ⊢
          exact Option.some.inj g1
      · have hb2 : ∀ i, i < h.1.length → (fun j => if j = h.1.length then H.size else ba j) i = ba i := fun i hi => if_neg (Nat.ne_of_lt hi)
        have e8 : (fun j => if j = h.1.length then H.size else ba j) h.1.length = H.size := if_pos rfl
        have e9 : Value.ref H.size = am_v (fun j => if j = h.1.length then H.size else ba j) sx (.ref h.1.length) := congrArg Value.ref e8.symm
        rw [e9, ← am_st_ext (sx := sx) hst hb2]
        refine k (fun j => if j = h.1.length then H.size else ba j) H1 locs hb2 ⟨?_, am_in_up hin0 hlt, am_AA_up hAA (hA _ hS.1)⟩ hS1
        refine am_set_P (am_w_push (h2 := (h.1 ++ [.inr (ci, am_df ci)], am_ur h.2.1 h.1.length (fun _ => 0), h.2.2)) (e2 := .inr (ci, am_df ci)) e8.symm hb2 rfl ?_ ?_) hP1
        · unfold am_x
          dsimp only
          congr 2
          apply List.ext_getElem?
          intro j
          rw [List.getElem?_mapIdx, List.getElem?_mapIdx]
          cases hj9 : (am_df ci)[j]? with
          | none => rfl
          | some o =>
            cases o with
            | some v9 =>
              have := am_df_w ci j v9 hj9
              subst this
              rfl
            | none =>
              show some (Value.int (am_ur h.2.1 h.1.length (fun _ => 0) h.1.length j)) = some (Value.int 0)
              rw [am_ur_row]
        · intro j9 e9 hj h9
          exact Eq.trans (am_x_cong e9 (am_ur_other _ _ (Nat.ne_of_lt hj)) rfl rfl) (am_x_ext hwh h9 hb2)
    next => cases hs
  case newarray ty9 =>
    simp only [am_lo, beq_iff_eq] at hlo
    subst hlo
    simp only [am_heap] at hs
    split at hs
    next cn st3 =>
      split at hs
      next hi =>
        obtain ⟨hneg, hbig⟩ := hi
        cases ty9
        all_goals first | (exfalso; cases hs; done) | skip
        case int =>
          cases hs
          refine am_newa (cl := am_cl) (cA0 := cT 0) (t0 := 0) (ty := .int) hx hb rfl (wrd am_w_aint) hK hP hS rfl rfl (a0 := (cn.toNatClampNeg, .inl (fun _ => 0))) rfl hneg rfl (by show _ * 4 ≤ _; omega) hc hsl hd (fun H1 z1 hP1 hS1 => ?_)
          have hb2 : ∀ i, i < h.1.length → (fun j => if j = h.1.length then H.size else ba j) i = ba i := fun i hi => if_neg (Nat.ne_of_lt hi)
          have e8 : (fun j => if j = h.1.length then H.size else ba j) h.1.length = H.size := if_pos rfl
          have e9 : Value.ref H.size = am_v (fun j => if j = h.1.length then H.size else ba j) sx (.ref h.1.length) := congrArg Value.ref e8.symm
          rw [e9, ← am_st_ext (sx := sx) (am_wt_c.mp hst).2 hb2]
          refine k (fun j => if j = h.1.length then H.size else ba j) H1 locs hb2 ⟨?_, am_in_up hin0 hlt, am_AA_up hAA (hA _ hS.1)⟩ hS1
          refine am_set_P (am_w_push (h2 := (h.1 ++ [.inl (0, cn.toNatClampNeg)], am_ur h.2.1 h.1.length (fun _ => 0), h.2.2)) (e2 := .inl (0, cn.toNatClampNeg)) e8.symm hb2 rfl ?_ ?_) hP1
          · show Sum.inl (cT 0, cn.toNatClampNeg, Sum.inl (am_ur h.2.1 h.1.length (fun _ => 0) h.1.length)) = _
            rw [am_ur_row]
          · intro j9 e9 hj h9
            exact Eq.trans (am_x_cong e9 (am_ur_other _ _ (Nat.ne_of_lt hj)) rfl rfl) (am_x_ext hwh h9 hb2)
      next => cases hs
    next => cases hs
  case ldc ix =>
    simp only [am_lo, beq_iff_eq] at hlo
    subst hlo
    simp only [am_heap] at hs
    split at hs
    next q9 hf =>
      obtain ⟨v9, p9⟩ := q9
      cases hs
      have w1 := am_kT_ok _ ho _ (am_find_mem hf)
      exact lv_ldc hx hb hown (wrd w1) hd (k ba H locs (fun _ _ => rfl) ⟨hP, hin0, hAA⟩ hS)
    next =>
      split at hs
      next i9 hf =>
        cases hs
        obtain ⟨tx, hR⟩ := hSR s s.heap _ _ _ hEV hf
        refine va_ldcS hx hb hown hR hd ?_
        exact k ba H locs (fun _ _ => rfl) ⟨hP, hin0, hAA⟩ hS
      next => cases hs
  case ldc_w ix =>
    simp only [am_lo, beq_iff_eq] at hlo
    subst hlo
    simp only [am_heap] at hs
    split at hs
    next q9 hf =>
      obtain ⟨v9, p9⟩ := q9
      cases hs
      have w1 := am_kT_ok _ ho _ (am_find_mem hf)
      exact lv_ldcw hx hb hown (wrd w1) hd (k ba H locs (fun _ _ => rfl) ⟨hP, hin0, hAA⟩ hS)
    next =>
      split at hs
      next i9 hf =>
        cases hs
        obtain ⟨tx, hR⟩ := hSR s s.heap _ _ _ hEV hf
        refine am_ldcSW hx hb hown hR hd ?_
        exact k ba H locs (fun _ _ => rfl) ⟨hP, hin0, hAA⟩ hS
      next => cases hs
  case invokespecial ix =>
    simp only [am_lo, beq_iff_eq] at hlo
    subst hlo
    simp only [am_heap] at hs
    split at hs
    next i st3 =>
      split at hs
      next q9 hf =>
        obtain ⟨k9, p9⟩ := q9
        dsimp only at hs
        split at hs
        next hcs =>
          obtain ⟨rfl, hcs⟩ := hcs
          have hcs2 := am_cs_map ba sx st3
          cases hs
          have w1 := (am_bT_ok _ ho _ (am_find_mem hf)).1
          refine W.objInit (a := ba i) hx hb hown (wrd w1) (wrd am_w_ioi) (wrd am_w_coi) rfl (by rw [hml]; exact hls) rfl hd (by omega) ?_ (k ba H locs (fun _ _ => rfl) ⟨hP, hin0, hAA⟩ hS)
          show 2 * 0 + _ + 12 ≤ R.locals
          rw [hcs2]
          omega
        next => cases hs
      next => cases hs
    next => cases hs
  case invokestatic ix =>
    simp only [am_lo, beq_iff_eq] at hlo
    subst hlo
    simp only [am_heap] at hs
    split at hs
    next q9 hf =>
      obtain ⟨k9, p9⟩ := q9
      dsimp only at hs
      have w1 := (am_bT_ok _ ho _ (am_find_mem hf)).1
      dsimp only at w1
      split at hs
      next hk9 =>
        subst hk9
        split at hs
        next y9 x9 st3 =>
          split at hs
          next hcs =>
            have hcs2 := am_cs_map ba sx st3
            cases hs
            exact va_mmax hx hb (by rw [hml]; exact hls.symm) hown (wrd w1) (wrd am_w_smax) (wrd am_w_imath) (wrd am_w_cmax) (by omega) (by rw [hcs2]; omega) (by omega) (by omega) hd (k ba H locs (fun _ _ => rfl) ⟨hP, hin0, hAA⟩ hS)
          next => cases hs
        next => cases hs
      next =>
       split at hs
       next hk9 =>
        subst hk9
        split at hs
        next y9 x9 st3 =>
          split at hs
          next hcs =>
            have hcs2 := am_cs_map ba sx st3
            cases hs
            exact va_mmin hx hb (by rw [hml]; exact hls.symm) hown (wrd w1) (wrd am_w_smin) (wrd am_w_imath) (wrd am_w_cmin) (by omega) (by rw [hcs2]; omega) (by omega) (by omega) hd (k ba H locs (fun _ _ => rfl) ⟨hP, hin0, hAA⟩ hS)
          next => cases hs
        next => cases hs
       next =>
        split at hs
        next hk9 =>
          subst hk9
          split at hs
          next n9 dp a9 sp a0 st3 =>
            split at hs
            next k0 n0 he0 =>
              split at hs
              next k1 n1 he1 =>
                split at hs
                next hi =>
                  obtain ⟨⟨hcs, rfl, rfl⟩, q1, q2, q3, q4, q5⟩ := hi
                  have hcs2 := am_cs_map ba sx st3
                  cases hs
                  have hg0 := am_w_get (cT := cT) (ba := ba) (sx := sx) he0
                  have hg1 := am_w_get (cT := cT) (ba := ba) (sx := sx) he1
                  have hnf : nativeFrameWords "java/lang/System" "arraycopy" 5 ≤ 100 := by decide +kernel
                  rw [List.map_cons, List.map_cons, List.map_cons, List.map_cons, List.map_cons, am_v_ref, am_v_ref]
                  refine va_copyi hx hb (by rw [hml]; exact hls.symm) hown (wrd w1) (wrd am_w_ncopy) (wrd am_w_scopy) (wrd am_w_isys) hK hP hD hS a0 a9 0 0 hg0 hg1 rfl rfl rfl q1 q2 q3 q4 q5 (fun _ _ => rfl) (by omega) (by rw [hcs2]; omega) hd (fun H1 locs1 hP1 _ hS1 => k ba H1 locs1 (fun _ _ => rfl) ⟨?_, hin0, hAA⟩ hS1)
                  refine am_set_P (am_w_set (h2 := (h.1, am_ur h.2.1 a9 (va_cpy (h.2.1 a0) (h.2.1 a9) sp.toNatClampNeg dp.toNatClampNeg n9.toNatClampNeg), h.2.2)) (List.getElem?_eq_some_iff.mp he1).1 (am_set_same he1) ?_ ?_) hP1
                  · show Sum.inl (cT 0, n1, Sum.inl (am_ur h.2.1 a9 (va_cpy (h.2.1 a0) (h.2.1 a9) sp.toNatClampNeg dp.toNatClampNeg n9.toNatClampNeg) a9)) = _
                    rw [am_ur_row]
                  · intro j9 e9 hj _
                    exact am_x_cong e9 (am_ur_other _ _ hj) rfl rfl
                next => cases hs
              next => cases hs
            next => cases hs
          next => cases hs
        next => cases hs
    next => cases hs
  case invokevirtual ix =>
    simp only [am_lo, beq_iff_eq] at hlo
    subst hlo
    simp only [am_heap] at hs
    split at hs
    next q9 hf =>
      obtain ⟨k9, p9⟩ := q9
      dsimp only at hs
      have w1 := (am_bT_ok _ ho _ (am_find_mem hf)).1
      dsimp only at w1
      split at hs
      next hk9 =>
        subst hk9
        split at hs
        next i st3 =>
          split at hs
          next tx htx =>
            split at hs
            next hcs =>
              have hcs2 := am_cs_map ba sx st3
              cases hs
              rw [List.map_cons, am_v_big]
              refine hSL 4 hx hb (by rw [hml]; exact hls.symm) hown hts hEV hS rfl (wrd w1) htx (by rw [hcs2]; exact hcs) (by omega) (by omega) (by omega) (by omega) hd (fun H1 locs1 e1 e2 => ?_)
              subst e1; subst e2
              exact k ba H1 locs1 (fun _ _ => rfl) ⟨hP, hin0, hAA⟩ hS
            next => cases hs
          next => cases hs
        next => cases hs
      next =>
       split at hs
       next hk9 =>
        subst hk9
        split at hs
        next j i st3 =>
          split at hs
          next tx htx =>
            split at hs
            next ch hch =>
              split at hs
              next hcs =>
                obtain ⟨hcs, hin⟩ := hcs
                have hcs2 := am_cs_map ba sx st3
                cases hs
                show W p l e R s m args below meth c H locs cells slots Q (F0 m pc ls (Value.int j :: Value.ref (sx (i + 1)) :: st3.map (am_v ba sx)))
                refine hSC hx hb (by rw [hml]; exact hls.symm) hown hts hEV hS (wrd w1) htx hin hch (by rw [hcs2]; exact hcs) ?_ ?_ ?_ ?_ hd (fun H1 locs1 e1 e2 => ?_)
                · omega
                · omega
                · omega
                · omega
                subst e1; subst e2
                exact k ba H1 locs1 (fun _ _ => rfl) ⟨hP, hin0, hAA⟩ hS
              next => cases hs
            next => cases hs
          next => cases hs
        next => cases hs
       next => cases hs
    next => cases hs
end AMI
