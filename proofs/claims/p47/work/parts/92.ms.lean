/-! THE TEXT THAT acts PUTS TOGETHER, 2: its steps in acts' frame -/
section MCC
variable {p : Program} {l : Launch} {e : Env} {R : Room} {s : State} {m : MethodId} {args : Array Value} {below : List Frame} {meth : Method} {c : Code} {H : Heap} {locs : List Loc} {cells slots : Nat} {Q : State → Prop}
variable {pc : Nat} {ls : Array Slot} {rest st0 : List Value} {a : Array Value} {A G : Nat → Prop} {H0 : Heap} {mc ms : Nat} {D : va_G} {cB : ClassId} {post : Option Value → va_W → Prop} {EV : State → Heap → Prop}
/-- a call of a builder's method, where the frame has written elsewhere too -/
theorem mc_call (hr : va_Run p l e R s m args below meth c H locs cells slots mc ms (F0 m pc ls st0) rest (js_Q D G post a) G) (hS : va_S G H0 H []) (hlc : ∀ z ∈ locs, A z.base) (hGA : ∀ q, G q → A q)
    (k : ∀ (v : Option Value) (ws : va_W) (H1 : Heap) (locs1 : List Loc), post v ws → va_P D js_cl ws H1 → va_D G ws → va_S G H0 H1 [] → (∀ z ∈ locs1, A z.base) → W p l e R s m args below meth c H1 locs1 (cells + mc) (slots + ms) Q (F0 m (pc + 3) ls (v.toList ++ rest))) : W p l e R s m args below meth c H locs cells slots Q (F0 m pc ls st0) := by
  intro T hT X
  obtain ⟨v, st₀, t, T', L, h0, X', hL, e1, e2, ⟨⟨v2, ws, hv, hp, hP, hD⟩, hz, hk⟩, st⟩ := hr T hT X
  cases hv
  rw [h0] at hz hk
  obtain ⟨t2, a1, b1⟩ := k v ws T'.heap (locs ++ L) hp (by rw [e1]; exact hP) hD
    ⟨Nat.le_trans hS.1 (by rw [e1]; exact hz), fun q h1 h2 => by rw [e1, hk q (Nat.lt_of_lt_of_le h1 hS.1) h2]; exact hS.2.1 q h1 h2, fun q hq => absurd hq List.not_mem_nil⟩ (fun q hq => by
      rcases List.mem_append.mp hq with h | h
      · exact hlc q h
      · exact hGA _ (hL q h)) T' rfl X'
  exact ⟨t2, st t2 a1, b1⟩
/-- what holds in acts' frame -/
def mc_Fr (D : va_G) (cB : ClassId) (p : Program) (R : Room) (s : State) (m : MethodId) (args : Array Value) (c : Code) (ls : Array Slot) : Prop := p.tables.exec = Jvm.exec ∧ c.code = cL_acts ∧ (c.maxLocals = 6 ∧ ls.size = 6) ∧ s.vm.findClass RL = some m.cls ∧ (∀ w ∈ am_WS jsW, w.before args s = true) ∧ 18 ≤ R.frames ∧ 680 ≤ R.locals ∧ va_K D js_cl (js_ty cB) s
/-- what holds outside of the region G of new cells -/
def mc_C (G A : Nat → Prop) (EV : State → Heap → Prop) (s : State) (H0 : Heap) : Prop := am_EVm G EV ∧ ss_B G EV ∧ js_T G EV ∧ (∀ (U : State) (H : Heap), EV U H → va_Nw (.castable "[B" "java/lang/Cloneable") U) ∧ EV s H0 ∧ (∀ q : Nat, H0.size ≤ q → G q) ∧ ∀ q, G q → A q
/-- a builder with the text tx -/
def mc_I (D : va_G) (cB : ClassId) (G A : Nat → Prop) (H0 : Heap) (b : Nat) (tx : String) (H : Heap) (locs : List Loc) : Prop :=
  (∃ (d cap : Nat) (f : Nat → Int32) (ml : Int32), va_P D js_cl (js_b cB b d cap tx.length ml f) H ∧ va_D G (js_b cB b d cap tx.length ml f) ∧ (cap = 16 ∨ cap = 34) ∧ tx.length ≤ cap ∧ js_ft f ∧ ∀ j, j < tx.length → f j = (ev_by tx).getD j 0) ∧ va_S G H0 H [] ∧ ∀ z ∈ locs, A z.base
theorem mc_len (tx ty : String) : (tx ++ ty).length = tx.length + ty.length := String.length_append ..
theorem mc_byl (tx : String) : (ev_by tx).length = tx.length := by
  unfold ev_by
  rw [List.length_map]
  first
    | rfl
    | exact String.length_toList
    | exact String.length_toList _
    | simp [String.length]
theorem mc_by (tx ty : String) (j : Nat) : (ev_by (tx ++ ty)).getD j 0 = if j < tx.length then (ev_by tx).getD j 0 else (ev_by ty).getD (j - tx.length) 0 := by
  have h : ev_by (tx ++ ty) = ev_by tx ++ ev_by ty := by simp [ev_by]
  rw [h, List.getD_eq_getElem?_getD, List.getElem?_append, mc_byl]
  split <;> rw [List.getD_eq_getElem?_getD]
theorem mc_cp {q cap cap2 : Nat} (hc : cap = 16 ∨ cap = 34) (hq : q ≤ 34) (h : cap2 = js_nc q cap) : (cap2 = 16 ∨ cap2 = 34) ∧ q ≤ cap2 ∧ js_cap q cap ≤ 70 := by
  unfold js_nc at h
  unfold js_cap at h ⊢
  rcases hc with rfl | rfl <;> (split at h <;> (try split at h) <;> split <;> omega)
theorem mc_app (hg : ∀ w ∈ am_WS jsW, goodWord w = true) (F : mc_Fr D cB p R s m args c ls) (C : mc_C G A EV s H0) {b : Nat} {tx ty : String} (hI : mc_I D cB G A H0 b tx H locs) {o v0 : Nat} (hS0 : ∀ (U : State) (H : Heap), EV U H → ev_S G ty o v0 U H) (hty : ty.length < 100 ∧ ∀ c ∈ ty.toList, c.toNat < 128) (hlen : (tx ++ ty).length ≤ 34) (hd : decode cL_acts pc = .ok (.invokevirtual 167, 3)) (hc : cells + 1 ≤ R.cells) (hs : slots + 70 ≤ R.slots) (hrest : (rest.map fun v => v.category).sum ≤ 6)
    (k : ∀ (H1 : Heap) (locs1 : List Loc), mc_I D cB G A H0 b (tx ++ ty) H1 locs1 → W p l e R s m args below meth c H1 locs1 (cells + 1) (slots + 70) Q (F0 m (pc + 3) ls (.ref b :: rest))) : W p l e R s m args below meth c H locs cells slots Q (F0 m pc ls (.ref o :: .ref b :: rest)) := by
  obtain ⟨hx, hb, ⟨hml, hls⟩, hown, hts, hfr, hlo, hK⟩ := F
  obtain ⟨hm, hB, hT, hcl, hE0, hG0, hGA⟩ := C
  obtain ⟨⟨d, cap, f, ml, hP, hD, hcp, hn, hf, hfj⟩, hS, hlc⟩ := hI
  have hE : EV s H := hm.2 s H0 H (fun a h1 h2 => hS.2.1 a h1 h2) hE0
  have hAH : ∀ q : Nat, H.size ≤ q → G q := fun q h => hG0 q (Nat.le_trans hS.1 h)
  rw [mc_len] at hlen
  obtain ⟨-, -, h70⟩ := mc_cp hcp hlen rfl
  refine mc_call (va_runV (cc := cL_acts) (C := RJ4) (As := [.ref o]) (b := b) (rest := rest) ⟨hx, hb, hml, hown, hts⟩ (jc_appendS (b := b) (d := d) (cap := cap) (n := tx.length) (ml := ml) (f := f) hg hm hB hS0 hty hn (by omega) hf) ⟨callB_of 1 hts (am_goodIn hg (fun w hw => by rcases List.mem_cons.mp hw with rfl | hw; exact js_in 121 rfl; exact hw)) rfl rfl rfl (hts _ (js_in 103 rfl)) (hts (.methodLink RL 167 yJ4_append_15ec4) (js_in 122 rfl)) (by decide +kernel) ⟨by show 7 + 1 ≤ _; omega, by show 8 + (2 + 11) + 300 ≤ _; omega⟩, (hts _ (js_in 123 rfl)), (hts _ (js_in 124 rfl))⟩ ⟨js_fb hm, js_recv hK hP 0 rfl, js_pre hm hP hD hK hAH hE⟩ rfl rfl hls rfl (lv_room (by omega)) hd ⟨hc, by omega⟩) hS hlc hGA (fun v w H1 locs1 qq hP hD hS hlc => ?_)
  obtain ⟨d2, cap2, f2, rfl, rfl, hq1, hq2, hf2, hk2, hd2⟩ := qq
  obtain ⟨h16, hle, -⟩ := mc_cp hcp hlen hq2.2
  refine W.widen (Nat.le_refl _) (Nat.add_le_add_left h70 _) (k H1 locs1 ⟨⟨d2, cap2, f2, ml, by rw [mc_len]; exact hP, by rw [mc_len]; exact hD, h16, by rw [mc_len]; exact hle, hf2, fun j hj => ?_⟩, hS, hlc⟩)
  rw [mc_len] at hj
  rw [mc_by]
  by_cases h9 : j < tx.length
  · rw [if_pos h9, hk2 j h9]
    exact hfj j h9
  · rw [if_neg h9, ← hd2 (j - tx.length) (by omega), show tx.length + (j - tx.length) = j from by omega]
theorem mc_dg : ∀ v, v < 100 → (am_dg v).length = js_dg v ∧ ∀ j, j < 2 → j < js_dg v → (ev_by (am_dg v)).getD j 0 = Int32.ofNat (js_dd v j) := by decide +kernel
theorem mc_num (hg : ∀ w ∈ am_WS jsW, goodWord w = true) (F : mc_Fr D cB p R s m args c ls) (C : mc_C G A EV s H0) {b : Nat} {tx : String} (hI : mc_I D cB G A H0 b tx H locs) {v0 : Nat} (hv : v0 < 100) (hlen : (tx ++ am_dg v0).length ≤ 34) (hd : decode cL_acts pc = .ok (.invokevirtual 171, 3)) (hc : cells + 1 ≤ R.cells) (hs : slots + 70 ≤ R.slots) (hrest : (rest.map fun v => v.category).sum ≤ 6)
    (k : ∀ (H1 : Heap) (locs1 : List Loc), mc_I D cB G A H0 b (tx ++ am_dg v0) H1 locs1 → W p l e R s m args below meth c H1 locs1 (cells + 1) (slots + 70) Q (F0 m (pc + 3) ls (.ref b :: rest))) : W p l e R s m args below meth c H locs cells slots Q (F0 m pc ls (.int (nI v0) :: .ref b :: rest)) := by
  obtain ⟨hx, hb, ⟨hml, hls⟩, hown, hts, hfr, hlo, hK⟩ := F
  obtain ⟨hm, hB, hT, hcl, hE0, hG0, hGA⟩ := C
  obtain ⟨⟨d, cap, f, ml, hP, hD, hcp, hn, hf, hfj⟩, hS, hlc⟩ := hI
  have hE : EV s H := hm.2 s H0 H (fun a h1 h2 => hS.2.1 a h1 h2) hE0
  have hAH : ∀ q : Nat, H.size ≤ q → G q := fun q h => hG0 q (Nat.le_trans hS.1 h)
  obtain ⟨hdl, hdj⟩ := mc_dg v0 hv
  have hd2 : js_dg v0 ≤ 2 := by unfold js_dg; split <;> omega
  rw [mc_len, hdl] at hlen
  obtain ⟨-, -, h70⟩ := mc_cp hcp hlen rfl
  refine mc_call (va_runV (cc := cL_acts) (C := RJ4) (As := [.int (nI v0)]) (b := b) (rest := rest) ⟨hx, hb, hml, hown, hts⟩ (jc_appendI (b := b) (d := d) (cap := cap) (n := tx.length) (ml := ml) (f := f) (v0 := v0) hg hm hB hv hT hn (by omega) hf) ⟨callB_of 1 hts (am_goodIn hg (fun w hw => by rcases List.mem_cons.mp hw with rfl | hw; exact js_in 125 rfl; exact hw)) rfl rfl rfl (hts _ (js_in 103 rfl)) (hts (.methodLink RL 171 yJ4_append_bf812) (js_in 126 rfl)) (by decide +kernel) ⟨by show 7 + 1 ≤ _; omega, by show 8 + (2 + 11) + 300 ≤ _; omega⟩, (hts _ (js_in 127 rfl)), (hts _ (js_in 128 rfl))⟩ ⟨js_fb hm, js_recv hK hP 0 rfl, js_pre hm hP hD hK hAH hE⟩ rfl rfl hls rfl (lv_room (by omega)) hd ⟨hc, by omega⟩) hS hlc hGA (fun v w H1 locs1 qq hP hD hS hlc => ?_)
  obtain ⟨d2, cap2, f2, rfl, rfl, hq1, hq2, hf2, hk2, hd9⟩ := qq
  obtain ⟨h16, hle, -⟩ := mc_cp hcp hlen hq2.2
  refine W.widen (Nat.le_refl _) (Nat.add_le_add_left h70 _) (k H1 locs1 ⟨⟨d2, cap2, f2, ml, by rw [mc_len, hdl]; exact hP, by rw [mc_len, hdl]; exact hD, h16, by rw [mc_len, hdl]; exact hle, hf2, fun j hj => ?_⟩, hS, hlc⟩)
  rw [mc_len, hdl] at hj
  rw [mc_by]
  by_cases h9 : j < tx.length
  · rw [if_pos h9, hk2 j h9]
    exact hfj j h9
  · rw [if_neg h9, hdj (j - tx.length) (by omega) (by omega), ← hd9 (j - tx.length) (by omega), show tx.length + (j - tx.length) = j from by omega]
theorem mc_new (hg : ∀ w ∈ am_WS jsW, goodWord w = true) (F : mc_Fr D cB p R s m args c ls) (C : mc_C G A EV s H) (hlc : ∀ z ∈ locs, A z.base) (d1 : decode cL_acts pc = .ok (.new 162, 3)) (d2 : decode cL_acts (pc + 3) = .ok (.dup, 1)) (d3 : decode cL_acts (pc + 3 + 1) = .ok (.invokespecial 164, 3)) (hc : cells + 2 ≤ R.cells) (hs : slots + 20 ≤ R.slots) (hrest : (rest.map fun v => v.category).sum ≤ 6)
    (k : ∀ (b : Nat) (H1 : Heap) (locs1 : List Loc), mc_I D cB G A H b "" H1 locs1 → W p l e R s m args below meth c H1 locs1 (cells + 1 + 1) (slots + 4 + 16) Q (F0 m (pc + 3 + 1 + 3) ls (.ref b :: rest))) : W p l e R s m args below meth c H locs cells slots Q (F0 m pc ls rest) := by
  obtain ⟨hx, hb, ⟨hml, hls⟩, hown, hts, hfr, hlo, hK⟩ := F
  obtain ⟨hm, hB, hT, hcl, hE0, hG0, hGA⟩ := C
  refine W.newcK hx hb hown (hts _ (js_in 136 rfl)) (hts _ (js_in 137 rfl)) (hts _ (js_in 103 rfl)) rfl d1 (by omega) (by omega) (hK.1 0 _ rfl).2.1 rfl fun H1 kC hkC e1 z1 o1 => ?_
  have hP : va_P D js_cl [(H.size, .inr (0, [Value.null, .int 0, .int 0, .int 0]))] H1 := by
    intro k x hx9
    have hz : k < 1 := (List.getElem?_eq_some_iff.mp hx9).1
    rw [show k = 0 by omega] at hx9
    cases hx9
    exact ⟨_, rfl, (u_born tyJ4 hts js_u4 (hK.1 0 _ rfl) hkC e1 tyJ4_ok).to (fun j hj => by rcases (show j = 0 ∨ j = 1 ∨ j = 2 ∨ j = 3 from by have : j < 4 := hj; omega) with rfl | rfl | rfl | rfl <;> rfl)⟩
  have hD : va_D G [(H.size, .inr (0, [Value.null, .int 0, .int 0, .int 0]))] := by
    refine ⟨fun i j p q hi hj _ => ?_, fun k q hk => ?_⟩
    · have h1 : i < 1 := (List.getElem?_eq_some_iff.mp hi).1
      have h2 : j < 1 := (List.getElem?_eq_some_iff.mp hj).1
      omega
    · have hz : k < 1 := (List.getElem?_eq_some_iff.mp hk).1
      rw [show k = 0 by omega] at hk
      cases hk
      exact hG0 _ (Nat.le_refl _)
  have hS : va_S G H H1 [] := ⟨by omega, fun q h1 _ => o1 q h1, fun q hq => absurd hq List.not_mem_nil⟩
  have hE : EV s H1 := hm.2 s H H1 (fun a h1 h2 => hS.2.1 a h1 h2) hE0
  have hAH : ∀ q : Nat, H1.size ≤ q → G q := fun q h => hG0 q (Nat.le_trans hS.1 h)
  refine lv_dup hx hb d2 rfl ?_
  refine mc_call (va_runI (cc := cL_acts) (As := []) (b := H.size) (rest := .ref H.size :: rest) ⟨hx, hb, hml, hown, hts⟩ (jc_init (b := H.size) hg hm hB) ⟨callB_of 0 hts (am_goodIn hg (fun w hw => by rcases List.mem_cons.mp hw with rfl | hw; exact js_in 129 rfl; exact hw)) rfl rfl rfl (hts _ (js_in 103 rfl)) (hts (.methodLink RL 164 yJ4_init_da8c8) (js_in 130 rfl)) (by decide +kernel) ⟨by show 2 + 1 ≤ _; omega, by show 8 + (1 + 11) + 80 ≤ _; omega⟩, rfl, (hts _ (js_in 131 rfl))⟩ ⟨js_fb hm, js_pre hm hP hD hK hAH hE⟩ rfl rfl hls rfl (lv_room (by rw [List.map_cons, List.sum_cons]; show 1 + _ ≤ 8; omega)) d3 ⟨by show cells + 1 + 1 ≤ _; omega, by show slots + 4 + 16 ≤ _; omega⟩) hS hlc hGA (fun v w H2 locs2 qq hP hD hS hlc => ?_)
  obtain ⟨x, rfl, rfl⟩ := qq
  exact k H.size H2 locs2 ⟨⟨x, 16, _, 0, hP, hD, Or.inl rfl, Nat.zero_le _, js_ft0, fun j hj => absurd hj (Nat.not_lt_zero _)⟩, hS, hlc⟩
theorem mc_str (hg : ∀ w ∈ am_WS jsW, goodWord w = true) (F : mc_Fr D cB p R s m args c ls) (C : mc_C G A EV s H0) {b : Nat} {tx : String} (hI : mc_I D cB G A H0 b tx H locs) (hd : decode cL_acts pc = .ok (.invokevirtual 178, 3)) (hc : cells + 2 ≤ R.cells) (hs : slots + 40 ≤ R.slots) (hrest : (rest.map fun v => v.category).sum ≤ 6)
    (k : ∀ (d cap : Nat) (f : Nat → Int32) (ml : Int32) (o x : Nat) (g : Nat → Int32) (H1 : Heap) (locs1 : List Loc), va_P D js_cl (js_b cB b d cap tx.length ml f ++ [(o, .inr (1, [.ref x, .int 0, .int 0, .int 0])), (x, .inl (cB, tx.length, .inl g))]) H1 → va_D G (js_b cB b d cap tx.length ml f ++ [(o, .inr (1, [.ref x, .int 0, .int 0, .int 0])), (x, .inl (cB, tx.length, .inl g))]) → (∀ j, j < tx.length → g j = (ev_by tx).getD j 0) → va_S G H0 H1 [] → (∀ z ∈ locs1, A z.base) → W p l e R s m args below meth c H1 locs1 (cells + 2) (slots + 40) Q (F0 m (pc + 3) ls (.ref o :: rest))) : W p l e R s m args below meth c H locs cells slots Q (F0 m pc ls (.ref b :: rest)) := by
  obtain ⟨hx, hb, ⟨hml, hls⟩, hown, hts, hfr, hlo, hK⟩ := F
  obtain ⟨hm, hB, hT, hcl, hE0, hG0, hGA⟩ := C
  obtain ⟨⟨d, cap, f, ml, hP, hD, hcp, hn, hf, hfj⟩, hS, hlc⟩ := hI
  have hE : EV s H := hm.2 s H0 H (fun a h1 h2 => hS.2.1 a h1 h2) hE0
  have hAH : ∀ q : Nat, H.size ≤ q → G q := fun q h => hG0 q (Nat.le_trans hS.1 h)
  refine mc_call (va_runV (cc := cL_acts) (C := RJ4) (As := []) (b := b) (rest := rest) ⟨hx, hb, hml, hown, hts⟩ (jc_toString (b := b) (d := d) (cap := cap) (n := tx.length) (ml := ml) (f := f) hg hm hB hcl hn (by omega) hf) ⟨callB_of 0 hts (am_goodIn hg (fun w hw => by rcases List.mem_cons.mp hw with rfl | hw; exact js_in 132 rfl; exact hw)) rfl rfl rfl (hts _ (js_in 103 rfl)) (hts (.methodLink RL 178 yJ4_toString_0e30d) (js_in 133 rfl)) (by decide +kernel) ⟨by show 5 + 1 ≤ _; omega, by show 8 + (1 + 11) + 240 ≤ _; omega⟩, (hts _ (js_in 134 rfl)), (hts _ (js_in 135 rfl))⟩ ⟨js_fb hm, js_recv hK hP 0 rfl, js_pre hm hP hD hK hAH hE⟩ rfl rfl hls rfl (lv_room (by omega)) hd ⟨hc, by omega⟩) hS hlc hGA (fun v w H1 locs1 qq hP hD hS hlc => ?_)
  obtain ⟨o, x, g, rfl, rfl, hg1, hg2⟩ := qq
  exact W.widen (Nat.le_refl _) (by omega) (k d cap f ml o x g H1 locs1 hP hD (fun j hj => (hg2 j hj).trans (hfj j hj)) hS hlc)
end MCC
