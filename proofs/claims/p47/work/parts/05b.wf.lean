/-! every reference of a run leads into the shape -/
def am_wv (N : Nat) (v : Value) : Prop := match v with
  | .ref i => i < N
  | _ => True
def am_wl (N : Nat) (lv : am_L) : Prop := ∀ (i : Nat) (v : Value), am_ld lv i = some v → am_wv N v
def am_wt1 (N : Nat) (st : List Value) : Prop := ∀ v ∈ st, am_wv N v
def am_wh (sh : List am_E) : Prop := ∀ (i cj : Nat) (fs : List (Option Value)), sh[i]? = some (.inr (cj, fs)) → ∀ (k : Nat) (v : Value), fs[k]? = some (some v) → v = .null ∨ ∃ a, a < sh.length ∧ v = .ref a
theorem am_wv_up {N N2 : Nat} {v : Value} (h : N ≤ N2) (hv : am_wv N v) : am_wv N2 v := by
  cases v <;> first | exact trivial | exact Nat.lt_of_lt_of_le hv h
theorem am_wl_up {N N2 : Nat} {lv : am_L} (h : N ≤ N2) (hv : am_wl N lv) : am_wl N2 lv := fun i v q => am_wv_up h (hv i v q)
theorem am_wt_up {N N2 : Nat} {st : List Value} (h : N ≤ N2) (hv : am_wt1 N st) : am_wt1 N2 st := fun v q => am_wv_up h (hv v q)
theorem am_wt_c {N : Nat} {v : Value} {st : List Value} : am_wt1 N (v :: st) ↔ am_wv N v ∧ am_wt1 N st := List.forall_mem_cons
theorem am_wl_sto {N : Nat} {lv : am_L} {i : Nat} {v : Value} (hl : am_wl N lv) (hv : am_wv N v) : am_wl N (am_sto lv i v) := by
  intro j w hj
  rcases am_sto_ld lv i j v w hj with ⟨-, rfl⟩ | ⟨-, h2, -, -⟩
  · exact hv
  · exact hl j w h2
theorem am_ini_ld {n i : Nat} {as : List Value} {v : Value} (hv : am_ld (am_ini n as) i = some v) : as[i]? = some v := by
  unfold am_ld am_ini at hv
  by_cases hi : i < as.length
  · rw [List.getElem?_append_left (by rw [List.length_map]; exact hi), List.getElem?_map] at hv
    cases hq : as[i]? with
    | none => rw [hq] at hv; cases hv
    | some w => rw [hq] at hv; cases hv; rfl
  · rw [List.getElem?_append_right (by rw [List.length_map]; omega)] at hv
    rw [List.getElem?_replicate] at hv
    split at hv
    next o ho => split at ho <;> cases ho <;> cases hv
    next => cases hv
theorem am_wl_ini {N n : Nat} {as : List Value} (h : am_wt1 N as) : am_wl N (am_ini n as) := fun _ v hv => h v (List.mem_of_getElem? (am_ini_ld hv))
theorem am_wl_kill {N i : Nat} {lv : am_L} (h : am_wl N lv) : am_wl N ((am_sto lv i (.ref 0)).set i none) := by
  intro j w hj
  have hji : j ≠ i := by
    rintro rfl
    unfold am_ld at hj
    by_cases hl : j < (am_sto lv j (.ref 0)).length
    · rw [List.getElem?_set_self hl] at hj; cases hj
    · rw [List.getElem?_eq_none (by rw [List.length_set]; omega)] at hj; cases hj
  have hj2 : am_ld (am_sto lv i (.ref 0)) j = some w := by
    unfold am_ld at hj ⊢
    rw [List.getElem?_set_ne (Ne.symm hji)] at hj
    exact hj
  rcases am_sto_ld lv i j _ w hj2 with ⟨h1, -⟩ | ⟨h1, h2, h3, -⟩
  · exact absurd h1 hji
  · exact h j w h2
theorem am_wl_caught {N pc2 hp : Nat} {mt : am_M1} {lv lv2 : am_L} (hc : am_caught mt hp lv = some (pc2, lv2)) (h : am_wl N lv) : am_wl N lv2 := by
  unfold am_caught at hc
  split at hc
  · split at hc
    · cases hc; exact am_wl_kill h
    · cases hc
  · split at hc
    · cases hc; exact am_wl_kill h
    · cases hc
  · cases hc
set_option maxHeartbeats 4000000 in
theorem am_simple_w {ins : Instr} {len pc pc2 N : Nat} {lv lv2 : am_L} {st st2 : List Value} (hs : am_simple ins len pc lv st = some (pc2, lv2, st2)) (hl : am_wl N lv) (ht : am_wt1 N st) : am_wl N lv2 ∧ am_wt1 N st2 := by
  cases ins
  all_goals first | (exfalso; simp only [am_simple] at hs; cases hs; done) | skip
  all_goals simp only [am_simple] at hs
  all_goals first
    | (obtain ⟨v, h1, h2, h3⟩ := am_lod_some hs; cases h3; exact ⟨hl, am_wt_c.mpr ⟨hl _ _ h1, ht⟩⟩)
    | (obtain ⟨v, st3, rfl, h2, h4, h3⟩ := am_stv_some hs; cases h3; exact ⟨am_wl_sto hl (am_wt_c.mp ht).1, (am_wt_c.mp ht).2⟩)
    | (obtain ⟨v, st3, rfl, h2, h4, h3⟩ := am_stw_some hs; cases h3; exact ⟨am_wl_sto hl (am_wt_c.mp ht).1, (am_wt_c.mp ht).2⟩)
    | (cases hs; exact ⟨hl, am_wt_c.mpr ⟨trivial, ht⟩⟩)
    | skip
  all_goals (repeat' split at hs)
  all_goals first
    | (cases hs; done)
    | (obtain ⟨-, h3⟩ := am_br_some hs; cases h3; exact ⟨hl, (am_wt_c.mp ht).2⟩)
    | (obtain ⟨-, h3⟩ := am_br_some hs; cases h3; exact ⟨hl, (am_wt_c.mp (am_wt_c.mp ht).2).2⟩)
    | (cases hs; exact ⟨hl, ht⟩)
    | (cases hs; exact ⟨hl, am_wt_c.mpr ⟨trivial, ht⟩⟩)
    | (cases hs; exact ⟨am_wl_sto hl trivial, ht⟩)
    | (cases hs; exact ⟨hl, (am_wt_c.mp ht).2⟩)
    | (cases hs; exact ⟨hl, am_wt_c.mpr ⟨trivial, (am_wt_c.mp ht).2⟩⟩)
    | (cases hs; exact ⟨hl, am_wt_c.mpr ⟨trivial, (am_wt_c.mp (am_wt_c.mp ht).2).2⟩⟩)
    | (cases hs; exact ⟨hl, am_wt_c.mpr ⟨(am_wt_c.mp ht).1, ht⟩⟩)
    | (cases hs; exact ⟨hl, am_wt_c.mpr ⟨(am_wt_c.mp ht).1, am_wt_c.mpr ⟨(am_wt_c.mp (am_wt_c.mp ht).2).1, ht⟩⟩⟩)
theorem am_wh_set {sh : List am_E} {i cj k : Nat} {fs : List (Option Value)} {a : Nat} (h : am_wh sh) (hi : sh[i]? = some (.inr (cj, fs))) (ha : a < sh.length) : am_wh (sh.set i (.inr (cj, fs.set k (some (.ref a))))) := by
  intro j c2 f2 hj q v hv
  rw [List.length_set]
  by_cases hij : i = j
  · subst hij
    rw [List.getElem?_set_self (List.getElem?_eq_some_iff.mp hi).1] at hj
    cases hj
    by_cases hq : k = q
    · subst hq
      by_cases hl : k < fs.length
      · rw [List.getElem?_set_self hl] at hv
        cases hv
        exact Or.inr ⟨a, ha, rfl⟩
      · rw [List.getElem?_eq_none (by rw [List.length_set]; omega)] at hv
        cases hv
    · rw [List.getElem?_set_ne hq] at hv
      exact h i cj fs hi q v hv
  · rw [List.getElem?_set_ne hij] at hj
    exact h j c2 f2 hj q v hv
theorem am_wh_app {sh : List am_E} {e : am_E} (h : am_wh sh) (he : ∀ cj fs, e = .inr (cj, fs) → ∀ (k : Nat) (v : Value), fs[k]? = some (some v) → v = .null) : am_wh (sh ++ [e]) := by
  intro j c2 f2 hj q v hv
  rw [List.length_append]
  by_cases hl : j < sh.length
  · rw [List.getElem?_append_left hl] at hj
    rcases h j c2 f2 hj q v hv with h9 | ⟨a, h9, h8⟩
    · exact Or.inl h9
    · exact Or.inr ⟨a, by omega, h8⟩
  · rw [List.getElem?_append_right (by omega)] at hj
    cases hz : j - sh.length with
    | zero =>
      rw [hz] at hj
      cases hj
      exact Or.inl (he _ _ rfl q v hv)
    | succ z => rw [hz] at hj; cases hj
theorem am_df_w (ci : Nat) : ∀ (k : Nat) (v : Value), (am_df ci)[k]? = some (some v) → v = .null := by
  have h0 : ∀ l : List (Option Value), l.all (fun o => decide (o = none ∨ o = some .null)) = true → ∀ (k : Nat) (v : Value), l[k]? = some (some v) → v = .null := by
    intro l hl k v hv
    have h2 := List.all_eq_true.mp hl _ (List.mem_of_getElem? hv)
    rcases of_decide_eq_true h2 with h | h
    · cases h
    · cases h; rfl
  have h1 : ∀ c, c < 11 → (am_df c).all (fun o => decide (o = none ∨ o = some .null)) = true := by decide +kernel
  by_cases hc : ci < 11
  · exact h0 _ (h1 ci hc)
  · have e : am_df ci = am_df 10 := by
      obtain ⟨k, rfl⟩ : ∃ k, ci = k + 11 := ⟨ci - 11, by omega⟩
      rfl
    rw [e]
    exact h0 _ (h1 10 (by decide))
set_option maxHeartbeats 8000000 in
theorem am_heap_w {L : Nat} {xs : Nat → Int32} {tx : Nat → Option String} {mt : am_M1} {ins : Instr} {st st2 : List Value} {h h2 : am_H} {ph ph2 : Bool} {c2 s2 : Nat} (hs : am_heap L xs tx mt ins st h ph = some (st2, h2, ph2, c2, s2)) (ht : am_wt1 h.1.length st) (hh : am_wh h.1) : am_wt1 h2.1.length st2 ∧ am_wh h2.1 ∧ h.1.length ≤ h2.1.length := by
  cases ins
  all_goals first | (exfalso; simp only [am_heap] at hs; cases hs; done) | skip
  all_goals simp only [am_heap] at hs
  case getfield ix =>
    split at hs
    next i st3 =>
      split at hs
      next q hq =>
        split at hs
        next cj fs he =>
          split at hs
          next hi =>
            split at hs
            next hk => cases hs; exact ⟨am_wt_c.mpr ⟨trivial, (am_wt_c.mp ht).2⟩, hh, Nat.le_refl _⟩
            next v hk =>
              split at hs
              next =>
                cases hs
                refine ⟨am_wt_c.mpr ⟨?_, (am_wt_c.mp ht).2⟩, hh, Nat.le_refl _⟩
                rcases hh i cj fs he _ v hk with rfl | ⟨a, ha, rfl⟩
                · trivial
                · exact ha
              next => cases hs
            next => cases hs
          next => cases hs
        next => cases hs
      next => cases hs
    next => cases hs
  case putfield ix =>
    split at hs
    next v i st3 =>
      split at hs
      next q hq =>
        split at hs
        next cj fs he =>
          split at hs
          next hi =>
            split at hs
            next hk =>
              split at hs
              next => cases hs; exact ⟨(am_wt_c.mp (am_wt_c.mp ht).2).2, hh, Nat.le_refl _⟩
              next => cases hs
            next v9 hk =>
              split at hs
              next a =>
                cases hs
                refine ⟨?_, am_wh_set hh he (am_wt_c.mp ht).1, Nat.le_of_eq (List.length_set ..).symm⟩
                show am_wt1 (List.length (List.set h.1 i _)) _
                rw [List.length_set]
                exact (am_wt_c.mp (am_wt_c.mp ht).2).2
              next => cases hs
            next => cases hs
          next => cases hs
        next => cases hs
      next => cases hs
    next => cases hs
  case new ix =>
    split at hs
    next q hq =>
      cases hs
      have hl : h.1.length ≤ (h.1 ++ [Sum.inr (q.1, am_df q.1)] : List am_E).length := by rw [List.length_append]; omega
      refine ⟨am_wt_c.mpr ⟨?_, am_wt_up hl ht⟩, am_wh_app hh (fun cj fs e => by cases e; exact am_df_w _), hl⟩
      show h.1.length < (h.1 ++ [Sum.inr (q.1, am_df q.1)] : List am_E).length
      rw [List.length_append]
      exact Nat.lt_succ_self _
    next => cases hs
  case newarray ty =>
    split at hs
    next c st3 =>
      split at hs
      next =>
        split at hs
        next =>
          cases hs
          have hl : h.1.length ≤ (h.1 ++ [Sum.inl (0, c.toNatClampNeg)] : List am_E).length := by rw [List.length_append]; omega
          refine ⟨am_wt_c.mpr ⟨?_, am_wt_up hl (am_wt_c.mp ht).2⟩, am_wh_app hh (fun cj fs e => by cases e), hl⟩
          show h.1.length < (h.1 ++ [Sum.inl (0, c.toNatClampNeg)] : List am_E).length
          rw [List.length_append]
          exact Nat.lt_succ_self _
        next => cases hs
      next => cases hs
    next => cases hs
  all_goals (repeat' split at hs)
  all_goals first
    | (cases hs; done)
    | (cases hs; exact ⟨am_wt_c.mpr ⟨trivial, (am_wt_c.mp ht).2⟩, hh, Nat.le_refl _⟩)
    | (cases hs; exact ⟨am_wt_c.mpr ⟨trivial, (am_wt_c.mp (am_wt_c.mp ht).2).2⟩, hh, Nat.le_refl _⟩)
    | (cases hs; exact ⟨(am_wt_c.mp ht).2, hh, Nat.le_refl _⟩)
    | (cases hs; exact ⟨(am_wt_c.mp (am_wt_c.mp (am_wt_c.mp ht).2).2).2, hh, Nat.le_refl _⟩)
    | (cases hs; exact ⟨(am_wt_c.mp (am_wt_c.mp (am_wt_c.mp (am_wt_c.mp (am_wt_c.mp ht).2).2).2).2).2, hh, Nat.le_refl _⟩)
    | (cases hs; exact ⟨am_wt_c.mpr ⟨trivial, ht⟩, hh, Nat.le_refl _⟩)
theorem am_call_w {mt m2 : am_M1} {ins : Instr} {st as rest : List Value} {h : am_H} {N : Nat} (hc : am_call mt ins st h = some (m2, as, rest)) (ht : am_wt1 N st) : am_wt1 N as ∧ am_wt1 N rest := by
  have hd : ∀ k, am_wt1 N (st.drop k) := fun k v hv => ht v (List.mem_of_mem_drop hv)
  have hk : ∀ k, am_wt1 N (st.take k).reverse := fun k v hv => ht v (List.mem_of_mem_take (List.mem_reverse.mp hv))
  have hr : ∀ {k i : Nat} {l : List Value}, st.drop k = .ref i :: l → am_wv N (.ref i) ∧ am_wt1 N l := fun {k i l} e => by
    have h9 := hd k
    rw [e] at h9
    exact am_wt_c.mp h9
  unfold am_call at hc
  split at hc
  · split at hc
    · split at hc
      next i rest3 hdr =>
        split at hc
        · split at hc
          · cases hc
            exact ⟨am_wt_c.mpr ⟨(hr hdr).1, hk _⟩, (hr hdr).2⟩
          · cases hc
        · cases hc
      next => cases hc
    · cases hc
  · split at hc
    · split at hc
      · cases hc; exact ⟨hk _, hd _⟩
      · cases hc
    · cases hc
  · split at hc
    · split at hc
      next i rest3 hdr =>
        split at hc
        · cases hc
          exact ⟨am_wt_c.mpr ⟨(hr hdr).1, hk _⟩, (hr hdr).2⟩
        · cases hc
      next => cases hc
    · cases hc
  · cases hc
theorem am_ret_w {ty : Option FieldType} {ins : Instr} {st : List Value} {v : Option Value} {N : Nat} (hr : am_ret ty ins st = some v) (ht : am_wt1 N st) : ∀ w, v = some w → am_wv N w := by
  unfold am_ret at hr
  split at hr
  all_goals (repeat' split at hr)
  all_goals first
    | (cases hr; done)
    | (cases hr; intro w hw; cases hw; done)
    | (cases hr; intro w hw; cases hw; exact trivial)
    | (cases hr; intro w hw; cases hw; exact (am_wt_c.mp ht).1)
theorem am_mac_w {mt : am_M1} {pc i : Nat} {lv : am_L} {st : List Value} {a b c : Int32} (h : am_mac mt pc lv st = some (i, a, b, c)) : (am_own mt = 11 ∧ am_b mt = am_b am_m_L_acts ∧ am_mL mt = 6 ∧ am_rt mt = some .int) ∧ pc = 283 ∧ st = [.ref i] ∧ am_ld lv 3 = some (.int a) ∧ am_ld lv 4 = some (.int b) ∧ am_ld lv 5 = some (.int c) ∧ am_in a 7 = true ∧ am_in b 9 = true ∧ am_in c 11 = true := by
  unfold am_mac at h
  split at h
  next h0 =>
    split at h
    next i2 =>
      split at h
      next a2 h1 =>
        split at h
        next b2 h2 =>
          split at h
          next c2 h3 =>
            split at h
            next h4 => cases h; exact ⟨h0.1, h0.2, rfl, h1, h2, h3, h4⟩
            next => cases h
          next => cases h
        next => cases h
      next => cases h
    next => cases h
  next => cases h
theorem am_map_some {α β : Type} {f : α → β} {o : Option α} {b : β} (h : o.map f = some b) : ∃ a, o = some a ∧ f a = b := by
  cases o with
  | none => cases h
  | some a => cases h; exact ⟨a, rfl, rfl⟩
/-- a run's end -/
def am_wr (N : Nat) (r : am_R) : Prop := (∀ v, r.1 = .inl (some v) → am_wv r.2.1.1.length v) ∧ am_wh r.2.1.1 ∧ N ≤ r.2.1.1.length
theorem am_run_w {L : Nat} {xs : Nat → Int32} : ∀ (n : Nat) (tx : Nat → Option String) (d : Nat) (mt : am_M1) (pc : Nat) (lv : am_L) (st : List Value) (h : am_H) (ph : Bool) (r : am_R), am_run L xs n tx d mt pc lv st h ph = some r → am_wl h.1.length lv → am_wt1 h.1.length st → am_wh h.1 → am_wr h.1.length r := by
  intro n
  induction n with
  | zero => intro tx d mt pc lv st h ph r hr; exact absurd hr (by simp [am_run])
  | succ n IH =>
    intro tx d mt pc lv st h ph r hr hl ht hh
    unfold am_run at hr
    cases hf : am_find pc (am_c mt) with
    | none => rw [hf] at hr; cases hr
    | some q =>
      obtain ⟨ins, len⟩ := q
      rw [hf] at hr
      dsimp only at hr
      cases h1 : am_simple ins len pc lv st with
      | some q =>
        obtain ⟨pc2, lv2, st2⟩ := q
        rw [h1] at hr
        dsimp only at hr
        obtain ⟨w1, w2⟩ := am_simple_w h1 hl ht
        exact IH _ _ _ _ _ _ _ _ _ hr w1 w2 hh
      | none =>
        rw [h1] at hr
        dsimp only at hr
        cases h2 : am_heap L xs tx mt ins st h ph with
        | some q =>
          obtain ⟨st2, h2', ph2, c2, s2⟩ := q
          rw [h2] at hr
          dsimp only at hr
          obtain ⟨r0, hr0, rfl⟩ := am_map_some hr
          obtain ⟨w1, w2, w3⟩ := am_heap_w h2 ht hh
          obtain ⟨z1, z2, z3⟩ := IH _ _ _ _ _ _ _ _ _ hr0 (am_wl_up w3 hl) w1 w2
          exact ⟨z1, z2, Nat.le_trans w3 z3⟩
        | none =>
          rw [h2] at hr
          dsimp only at hr
          cases h3 : am_call mt ins st h with
          | some q =>
            obtain ⟨m2, as, rest⟩ := q
            rw [h3] at hr
            dsimp only at hr
            obtain ⟨w1, w2⟩ := am_call_w h3 ht
            cases d with
            | zero => cases hr
            | succ d2 =>
              dsimp only at hr
              cases h4 : am_run L xs n tx d2 m2 0 (am_ini (am_mL m2) as) [] h ph with
              | none => rw [h4] at hr; cases hr
              | some r2 =>
                rw [h4] at hr
                have z := IH _ _ _ _ _ _ _ _ _ h4 (am_wl_ini w1) (fun v hv => absurd hv List.not_mem_nil) hh
                obtain ⟨o2, h2', ph2, c2, s2⟩ := r2
                obtain ⟨z1, z2, z3⟩ := z
                dsimp only at z1 z2 z3
                cases o2 with
                | inl v =>
                  dsimp only at hr
                  obtain ⟨r0, hr0, rfl⟩ := am_map_some hr
                  obtain ⟨y1, y2, y3⟩ := IH _ _ _ _ _ _ _ _ _ hr0 (am_wl_up z3 hl) (by
                    intro w hw
                    rcases List.mem_append.mp hw with hw | hw
                    · exact z1 w (by rw [Option.mem_toList.mp hw])
                    · exact am_wv_up z3 (w2 w hw)) z2
                  exact ⟨y1, y2, Nat.le_trans z3 y3⟩
                | inr E =>
                  dsimp only at hr
                  cases h5 : am_hand (am_own mt) pc E (am_hh mt) with
                  | none => rw [h5] at hr; cases hr
                  | some o5 =>
                    rw [h5] at hr
                    cases o5 with
                    | none => cases hr; exact ⟨z1, z2, z3⟩
                    | some hp =>
                      dsimp only at hr
                      cases h6 : am_caught mt hp lv with
                      | none => rw [h6] at hr; cases hr
                      | some q6 =>
                        obtain ⟨pc2, lv2⟩ := q6
                        rw [h6] at hr
                        dsimp only at hr
                        obtain ⟨r0, hr0, rfl⟩ := am_map_some hr
                        obtain ⟨y1, y2, y3⟩ := IH _ _ _ _ _ _ _ _ _ hr0 (am_wl_up z3 (am_wl_caught h6 hl)) (fun v hv => absurd hv List.not_mem_nil) z2
                        exact ⟨y1, y2, Nat.le_trans z3 y3⟩
          | none =>
            rw [h3] at hr
            dsimp only at hr
            cases h7 : am_ret (am_rt mt) ins st with
            | some v =>
              rw [h7] at hr
              dsimp only at hr
              cases hr
              exact ⟨fun w hw => am_ret_w h7 ht w (by (cases hw; rfl)), hh, Nat.le_refl _⟩
            | none =>
              rw [h7] at hr
              dsimp only at hr
              cases h8 : am_thr mt ins pc st with
              | some E =>
                rw [h8] at hr
                dsimp only at hr
                cases hr
                exact ⟨fun w hw => by (cases hw), hh, Nat.le_refl _⟩
              | none =>
                rw [h8] at hr
                dsimp only at hr
                cases h9 : am_mac mt pc lv st with
                | none => rw [h9] at hr; cases hr
                | some q9 =>
                  obtain ⟨i, a, b, c⟩ := q9
                  rw [h9] at hr
                  dsimp only at hr
                  cases d with
                  | zero => cases hr
                  | succ d2 =>
                    dsimp only at hr
                    split at hr
                    next => cases hr
                    next =>
                      obtain ⟨-, -, rfl, -⟩ := am_mac_w h9
                      split at hr
                      next v h2' ph2 c2 s2 h10 =>
                        cases hr
                        obtain ⟨z1, z2, z3⟩ := IH _ _ _ _ _ _ _ _ _ h10 (am_wl_ini (am_wt_c.mpr ⟨(am_wt_c.mp ht).1, am_wt_c.mpr ⟨trivial, fun v hv => absurd hv List.not_mem_nil⟩⟩)) (fun v hv => absurd hv List.not_mem_nil) hh
                        exact ⟨fun w hw => by (cases hw; exact trivial), z2, z3⟩
                      next => cases hr
