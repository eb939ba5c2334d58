/-! THE JVM ANSWERS WHAT THE SMALL MACHINE ANSWERS, 1: values, cells, locals, and the instructions that touch locals and stack alone -/
def am_v (ba : Nat → Nat) (sx : Nat → Nat) (v : Value) : Value := match v with
  | .ref i => .ref (ba i)
  | .retAddr i => .ref (sx i)
  | v => v
theorem am_v_cat (ba : Nat → Nat) (sx : Nat → Nat) (v : Value) : (am_v ba sx v).category = v.category := by cases v <;> rfl
def am_lh (ba : Nat → Nat) (sx : Nat → Nat) (ls : Array Slot) (nL : Nat) (lv : am_L) : Prop := ls.size = nL ∧ lv_wf ls ∧ lv.length = nL ∧ ∀ (i : Nat) (v : Value), am_ld lv i = some v → ls[i]? = some (.val (am_v ba sx v))
def am_as (ba : Nat → Nat) (sx : Nat → Nat) (lv : am_L) : List (Nat × Value) := (List.range lv.length).filterMap fun i => (am_ld lv i).map fun v => (i, am_v ba sx v)
theorem am_ld_lt {lv : am_L} {i : Nat} {v : Value} (h : am_ld lv i = some v) : i < lv.length := by
  unfold am_ld at h
  cases hq : lv[i]? with
  | none => rw [hq] at h; cases h
  | some o => exact (List.getElem?_eq_some_iff.mp hq).1
theorem am_as_mem {ba : Nat → Nat} {sx : Nat → Nat} {lv : am_L} {i : Nat} {v : Value} (h : am_ld lv i = some v) : (i, am_v ba sx v) ∈ am_as ba sx lv :=
  List.mem_filterMap.mpr ⟨i, List.mem_range.mpr (am_ld_lt h), by rw [h]; rfl⟩
theorem am_as_of {ba : Nat → Nat} {sx : Nat → Nat} {lv : am_L} {q : Nat × Value} (h : q ∈ am_as ba sx lv) : ∃ v, am_ld lv q.1 = some v ∧ q.2 = am_v ba sx v := by
  obtain ⟨i, -, hi⟩ := List.mem_filterMap.mp h
  cases hl : am_ld lv i with
  | none => rw [hl] at hi; cases hi
  | some v => rw [hl] at hi; cases hi; exact ⟨v, hl, rfl⟩
theorem am_lh_has {ba : Nat → Nat} {sx : Nat → Nat} {ls : Array Slot} {nL : Nat} {lv : am_L} (h : am_lh ba sx ls nL lv) : lv_has ls nL (am_as ba sx lv) := by
  refine ⟨h.1, h.2.1, fun q hq => ?_⟩
  obtain ⟨v, h1, h2⟩ := am_as_of hq
  rw [h2]
  exact h.2.2.2 q.1 v h1
theorem am_sto_len (lv : am_L) : ∀ (i : Nat) (v : Value), (am_sto lv i v).length = lv.length := by
  induction lv with
  | nil => intro i v; simp [am_sto]
  | cons o l ih =>
    intro i v
    match i with
    | 0 =>
      unfold am_sto
      by_cases hc : v.category = 2
      · cases l with
        | nil => simp [hc]
        | cons a b => simp [hc]
      · simp [hc]
    | 1 => simp [am_sto, ih]
    | i + 2 => simp [am_sto, ih]
theorem am_ld_0 (o : Option Value) (l : am_L) : am_ld (o :: l) 0 = o := rfl
theorem am_ld_s (o : Option Value) (l : am_L) (i : Nat) : am_ld (o :: l) (i + 1) = am_ld l i := by simp [am_ld]
theorem am_sto_ld (lv : am_L) : ∀ (i j : Nat) (v w : Value), am_ld (am_sto lv i v) j = some w → (j = i ∧ w = v) ∨ (j ≠ i ∧ am_ld lv j = some w ∧ ¬ (j + 1 = i ∧ w.category = 2) ∧ ¬ (v.category = 2 ∧ j = i + 1)) := by
  induction lv with
  | nil => intro i j v w h; simp [am_sto, am_ld] at h
  | cons o l ih =>
    intro i j v w h
    match i with
    | 0 =>
      unfold am_sto at h
      cases j with
      | zero => rw [am_ld_0] at h; cases h; exact Or.inl ⟨rfl, rfl⟩
      | succ j =>
        rw [am_ld_s] at h
        refine Or.inr ⟨by omega, ?_⟩
        rw [am_ld_s]
        by_cases hc : v.category = 2
        · rw [if_pos hc] at h
          cases l with
          | nil => simp [am_ld] at h
          | cons a b =>
            cases j with
            | zero => rw [am_ld_0] at h; cases h
            | succ j =>
              rw [am_ld_s] at h ⊢
              exact ⟨h, by omega, by omega⟩
        · rw [if_neg hc] at h
          exact ⟨h, by omega, fun q => hc q.1⟩
    | 1 =>
      unfold am_sto at h
      cases j with
      | zero =>
        rw [am_ld_0] at h
        refine Or.inr ⟨by omega, ?_⟩
        rw [am_ld_0]
        unfold am_dk at h
        cases o with
        | none => cases h
        | some z =>
          dsimp only at h
          by_cases hc : z.category = 2
          · rw [if_pos hc] at h; cases h
          · rw [if_neg hc] at h; cases h; exact ⟨rfl, fun q => hc q.2, by omega⟩
      | succ j =>
        rw [am_ld_s] at h
        rcases ih 0 j v w h with ⟨h1, h2⟩ | ⟨h1, h2, h3, h4⟩
        · exact Or.inl ⟨by omega, h2⟩
        · exact Or.inr ⟨by omega, by rw [am_ld_s]; exact h2, fun q => h3 ⟨by omega, q.2⟩, fun q => h4 ⟨q.1, by omega⟩⟩
    | i + 2 =>
      unfold am_sto at h
      cases j with
      | zero =>
        rw [am_ld_0] at h
        exact Or.inr ⟨by omega, by rw [am_ld_0]; exact h, by omega, by omega⟩
      | succ j =>
        rw [am_ld_s] at h
        rcases ih (i + 1) j v w h with ⟨h1, h2⟩ | ⟨h1, h2, h3, h4⟩
        · exact Or.inl ⟨by omega, h2⟩
        · exact Or.inr ⟨by omega, by rw [am_ld_s]; exact h2, fun q => h3 ⟨by omega, q.2⟩, fun q => h4 ⟨q.1, by omega⟩⟩
/-- a store: what the row names of the locals is what the small machine keeps -/
theorem am_lh_sto {ba : Nat → Nat} {sx : Nat → Nat} {ls : Array Slot} {nL i : Nat} {lv : am_L} {v : Value} (hn : lv.length = nL) (hc : ¬ v.category = 2) (h : lv_has ls nL ((i, am_v ba sx v) :: (am_as ba sx lv).filter (fun q => !(q.1 == i) && !(q.1 + 1 == i && q.2.category == 2)))) : am_lh ba sx ls nL (am_sto lv i v) := by
  refine ⟨h.1, h.2.1, by rw [am_sto_len]; exact hn, fun j w hj => ?_⟩
  rcases am_sto_ld lv i j v w hj with ⟨rfl, rfl⟩ | ⟨h1, h2, h3, -⟩
  · exact h.2.2 _ List.mem_cons_self
  · refine h.2.2 (j, am_v ba sx w) (List.mem_cons_of_mem _ (List.mem_filter.mpr ⟨am_as_mem h2, ?_⟩))
    simp only [Bool.and_eq_true, Bool.not_eq_true', beq_eq_false_iff_ne, ne_eq, Bool.and_eq_false_iff, am_v_cat]
    refine ⟨h1, ?_⟩
    by_cases hq : j + 1 = i
    · exact Or.inr (fun z => h3 ⟨hq, z⟩)
    · exact Or.inl hq
theorem am_lh_sto2 {ba : Nat → Nat} {sx : Nat → Nat} {ls : Array Slot} {nL i : Nat} {lv : am_L} {v : Value} (hn : lv.length = nL) (hc : v.category = 2) (h : lv_has ls nL ((i, am_v ba sx v) :: (am_as ba sx lv).filter (fun q => !(q.1 == i) && (!(q.1 == i + 1) && !(q.1 + 1 == i && q.2.category == 2))))) : am_lh ba sx ls nL (am_sto lv i v) := by
  refine ⟨h.1, h.2.1, by rw [am_sto_len]; exact hn, fun j w hj => ?_⟩
  rcases am_sto_ld lv i j v w hj with ⟨rfl, rfl⟩ | ⟨h1, h2, h3, h4⟩
  · exact h.2.2 _ List.mem_cons_self
  · refine h.2.2 (j, am_v ba sx w) (List.mem_cons_of_mem _ (List.mem_filter.mpr ⟨am_as_mem h2, ?_⟩))
    simp only [Bool.and_eq_true, Bool.not_eq_true', beq_eq_false_iff_ne, ne_eq, Bool.and_eq_false_iff, am_v_cat]
    refine ⟨h1, fun z => h4 ⟨hc, z⟩, ?_⟩
    by_cases hq : j + 1 = i
    · exact Or.inr (fun z => h3 ⟨hq, z⟩)
    · exact Or.inl hq
section AMS
variable {p : Program} {l : Launch} {e : Env} {R : Room} {s : State} {m : MethodId} {args : Array Value} {below : List Frame} {meth : Method} {c : Code} {H : Heap} {locs : List Loc} {cells slots : Nat} {Q : State → Prop}
variable {ba : Nat → Nat} {sx : Nat → Nat} {cc : ByteArray} {pc : Nat} {ls : Array Slot} {nL : Nat} {lv : am_L} {st : List Value}
theorem am_lod_some {lv : am_L} {i : Nat} {f : Value → Bool} {pc len : Nat} {st : List Value} {r : Nat × am_L × List Value} (h : am_lod lv i f pc len st = some r) : ∃ v, am_ld lv i = some v ∧ f v = true ∧ r = (pc + len, lv, v :: st) := by
  unfold am_lod at h
  split at h
  next v hv =>
    by_cases hf : f v = true
    · rw [if_pos hf] at h; cases h; exact ⟨v, hv, hf, rfl⟩
    · rw [if_neg hf] at h; cases h
  next => cases h
theorem am_stv_some {lv : am_L} {i : Nat} {f : Value → Bool} {pc len : Nat} {st : List Value} {r : Nat × am_L × List Value} (h : am_stv lv i f pc len st = some r) : ∃ v st2, st = v :: st2 ∧ f v = true ∧ i < lv.length ∧ r = (pc + len, am_sto lv i v, st2) := by
  unfold am_stv at h
  split at h
  next v st2 =>
    by_cases hf : (f v && decide (i < lv.length)) = true
    · rw [if_pos hf] at h
      simp only [Bool.and_eq_true, decide_eq_true_eq] at hf
      cases h
      exact ⟨v, st2, rfl, hf.1, hf.2, rfl⟩
    · rw [if_neg hf] at h; cases h
  next => cases h
theorem am_stw_some {lv : am_L} {i : Nat} {f : Value → Bool} {pc len : Nat} {st : List Value} {r : Nat × am_L × List Value} (h : am_stw lv i f pc len st = some r) : ∃ v st2, st = v :: st2 ∧ f v = true ∧ i + 1 < lv.length ∧ r = (pc + len, am_sto lv i v, st2) := by
  unfold am_stw at h
  split at h
  next v st2 =>
    by_cases hf : (f v && decide (i + 1 < lv.length)) = true
    · rw [if_pos hf] at h
      simp only [Bool.and_eq_true, decide_eq_true_eq] at hf
      cases h
      exact ⟨v, st2, rfl, hf.1, hf.2, rfl⟩
    · rw [if_neg hf] at h; cases h
  next => cases h
theorem am_isI_of {v : Value} (h : am_isI v = true) : ∃ x, v = .int x := by cases v <;> first | exact ⟨_, rfl⟩ | (simp [am_isI] at h)
theorem am_isA_of {v : Value} (ba : Nat → Nat) (sx : Nat → Nat) (h : am_isA v = true) : ∃ x, am_v ba sx v = .ref x := by cases v <;> first | (simp [am_isA] at h; done) | exact ⟨_, rfl⟩
theorem am_isA_cat {v : Value} (h : am_isA v = true) : ¬ v.category = 2 := by cases v <;> first | (simp [am_isA] at h; done) | (intro z; cases z)
theorem am_isF_of {v : Value} (h : am_isF v = true) : ∃ x, v = .float x := by cases v <;> first | exact ⟨_, rfl⟩ | (simp [am_isF] at h)
theorem am_isD_of {v : Value} (h : am_isD v = true) : ∃ x, v = .double x := by cases v <;> first | exact ⟨_, rfl⟩ | (simp [am_isD] at h)
theorem am_br_some {b : Bool} {pc : Nat} {off : Int} {lv : am_L} {st : List Value} {r : Nat × am_L × List Value} (h : am_br b pc off lv st = some r) : (pc : Int) + off = (am_tgt pc off : Int) ∧ r = (if b then am_tgt pc off else pc + 3, lv, st) := by
  unfold am_br at h
  by_cases hq : 0 ≤ (pc : Int) + off
  · rw [if_pos hq] at h; cases h
    exact ⟨by unfold am_tgt; omega, rfl⟩
  · rw [if_neg hq] at h; cases h
theorem am_if_W (hx : p.tables.exec = Jvm.exec) (hb : c.code = cc) {cd : Jvm.ClassFile.Cond} {x : Int32} {off : Int} {st : List Value} (hdg : decode cc pc = .ok (.ifCond cd off, 3)) (ht : (pc : Int) + off = (am_tgt pc off : Int))
    (k : W p l e R s m args below meth c H locs cells slots Q (F0 m (if am_cond cd x 0 then am_tgt pc off else pc + 3) ls st)) : W p l e R s m args below meth c H locs cells slots Q (F0 m pc ls (.int x :: st)) := by
  cases cd
  case eq =>
    refine lv_if_eq hx hb hdg ht (fun hc => ?_) (fun hc => ?_)
    · rw [if_pos (by unfold am_cond; simpa using hc)] at k; exact k
    · rw [if_neg (by unfold am_cond; simpa using hc)] at k; exact k
  case ne =>
    refine lv_if_ne hx hb hdg ht (fun hc => ?_) (fun hc => ?_)
    · rw [if_pos (by unfold am_cond; simpa using hc)] at k; exact k
    · rw [if_neg (by unfold am_cond; simpa using hc)] at k; exact k
  case lt =>
    refine lv_if_lt hx hb hdg ht (fun hc => ?_) (fun hc => ?_)
    · rw [if_pos (by unfold am_cond; simpa using hc)] at k; exact k
    · rw [if_neg (by unfold am_cond; simpa using hc)] at k; exact k
  case ge =>
    refine lv_if_ge hx hb hdg ht (fun hc => ?_) (fun hc => ?_)
    · rw [if_pos (by unfold am_cond; simpa using hc)] at k; exact k
    · rw [if_neg (by unfold am_cond; simpa using hc)] at k; exact k
  case gt =>
    refine lv_if_gt hx hb hdg ht (fun hc => ?_) (fun hc => ?_)
    · rw [if_pos (by unfold am_cond; simpa using hc)] at k; exact k
    · rw [if_neg (by unfold am_cond; simpa using hc)] at k; exact k
  case le =>
    refine lv_if_le hx hb hdg ht (fun hc => ?_) (fun hc => ?_)
    · rw [if_pos (by unfold am_cond; simpa using hc)] at k; exact k
    · rw [if_neg (by unfold am_cond; simpa using hc)] at k; exact k
theorem am_icmp_W (hx : p.tables.exec = Jvm.exec) (hb : c.code = cc) {cd : Jvm.ClassFile.Cond} {x y : Int32} {off : Int} {st : List Value} (hdg : decode cc pc = .ok (.if_icmp cd off, 3)) (ht : (pc : Int) + off = (am_tgt pc off : Int))
    (k : W p l e R s m args below meth c H locs cells slots Q (F0 m (if am_cond cd x y then am_tgt pc off else pc + 3) ls st)) : W p l e R s m args below meth c H locs cells slots Q (F0 m pc ls (.int y :: .int x :: st)) := by
  cases cd
  case eq =>
    refine lv_icmp_eq hx hb hdg ht (fun hc => ?_) (fun hc => ?_)
    · rw [if_pos (by unfold am_cond; simpa using hc)] at k; exact k
    · rw [if_neg (by unfold am_cond; simpa using hc)] at k; exact k
  case ne =>
    refine lv_icmp_ne hx hb hdg ht (fun hc => ?_) (fun hc => ?_)
    · rw [if_pos (by unfold am_cond; simpa using hc)] at k; exact k
    · rw [if_neg (by unfold am_cond; simpa using hc)] at k; exact k
  case lt =>
    refine lv_icmp_lt hx hb hdg ht (fun hc => ?_) (fun hc => ?_)
    · rw [if_pos (by unfold am_cond; simpa using hc)] at k; exact k
    · rw [if_neg (by unfold am_cond; simpa using hc)] at k; exact k
  case ge =>
    refine lv_icmp_ge hx hb hdg ht (fun hc => ?_) (fun hc => ?_)
    · rw [if_pos (by unfold am_cond; simpa using hc)] at k; exact k
    · rw [if_neg (by unfold am_cond; simpa using hc)] at k; exact k
  case gt =>
    refine lv_icmp_gt hx hb hdg ht (fun hc => ?_) (fun hc => ?_)
    · rw [if_pos (by unfold am_cond; simpa using hc)] at k; exact k
    · rw [if_neg (by unfold am_cond; simpa using hc)] at k; exact k
  case le =>
    refine lv_icmp_le hx hb hdg ht (fun hc => ?_) (fun hc => ?_)
    · rw [if_pos (by unfold am_cond; simpa using hc)] at k; exact k
    · rw [if_neg (by unfold am_cond; simpa using hc)] at k; exact k
set_option maxHeartbeats 4000000 in
theorem am_simple_W {ins : Instr} {len pc2 : Nat} {lv2 : am_L} {st2 : List Value} (hx : p.tables.exec = Jvm.exec) (hb : c.code = cc) (hd : decode cc pc = .ok (ins, len)) (hlo : am_lo ins len = true) (hl : am_lh ba sx ls nL lv) (hs : am_simple ins len pc lv st = some (pc2, lv2, st2))
    (k : ∀ ls2, am_lh ba sx ls2 nL lv2 → W p l e R s m args below meth c H locs cells slots Q (F0 m pc2 ls2 (st2.map (am_v ba sx)))) : W p l e R s m args below meth c H locs cells slots Q (F0 m pc ls (st.map (am_v ba sx))) := by
  have hlen := hl.2.2.1
  cases ins
  all_goals first | (exfalso; simp only [am_simple] at hs; cases hs; done) | skip
  case aload i =>
    simp only [am_lo, beq_iff_eq] at hlo
    subst hlo
    simp only [am_simple] at hs
    obtain ⟨v, h1, h2, h3⟩ := am_lod_some hs
    obtain ⟨x, hv⟩ := am_isA_of ba sx h2
    cases h3
    have k9 := k ls hl
    have h9 := hl.2.2.2 _ _ h1
    rw [List.map_cons, hv] at k9
    rw [hv] at h9
    exact lv_aload hx hb hd h9 k9
  case astore i =>
    simp only [am_lo, beq_iff_eq] at hlo
    subst hlo
    simp only [am_simple] at hs
    obtain ⟨v, st3, rfl, h2, h4, h3⟩ := am_stv_some hs
    obtain ⟨x, hv⟩ := am_isA_of ba sx h2
    cases h3
    rw [List.map_cons, hv]
    exact lv_astore hx hb hd (am_lh_has hl) (by omega) rfl (fun ls2 h => k ls2 (am_lh_sto hlen (am_isA_cat h2) (by rw [hv]; exact h)))
  case aload_n i =>
    simp only [am_lo, beq_iff_eq] at hlo
    subst hlo
    simp only [am_simple] at hs
    obtain ⟨v, h1, h2, h3⟩ := am_lod_some hs
    obtain ⟨x, hv⟩ := am_isA_of ba sx h2
    cases h3
    have k9 := k ls hl
    have h9 := hl.2.2.2 _ _ h1
    rw [List.map_cons, hv] at k9
    rw [hv] at h9
    exact lv_aload_n hx hb hd rfl h9 k9
  case astore_n i =>
    simp only [am_lo, beq_iff_eq] at hlo
    subst hlo
    simp only [am_simple] at hs
    obtain ⟨v, st3, rfl, h2, h4, h3⟩ := am_stv_some hs
    obtain ⟨x, hv⟩ := am_isA_of ba sx h2
    cases h3
    rw [List.map_cons, hv]
    exact lv_astore_n hx hb hd rfl (am_lh_has hl) (by omega) rfl (fun ls2 h => k ls2 (am_lh_sto hlen (am_isA_cat h2) (by rw [hv]; exact h)))
  case iload i =>
    simp only [am_lo, beq_iff_eq] at hlo
    subst hlo
    simp only [am_simple] at hs
    obtain ⟨v, h1, h2, h3⟩ := am_lod_some hs
    obtain ⟨x, rfl⟩ := am_isI_of h2
    cases h3
    exact lv_iload hx hb hd (hl.2.2.2 _ _ h1) (k ls hl)
  case iload_n i =>
    simp only [am_lo, beq_iff_eq] at hlo
    subst hlo
    simp only [am_simple] at hs
    obtain ⟨v, h1, h2, h3⟩ := am_lod_some hs
    obtain ⟨x, rfl⟩ := am_isI_of h2
    cases h3
    exact lv_iload_n hx hb hd rfl (hl.2.2.2 _ _ h1) (k ls hl)
  case fload i =>
    simp only [am_lo, beq_iff_eq] at hlo
    subst hlo
    simp only [am_simple] at hs
    obtain ⟨v, h1, h2, h3⟩ := am_lod_some hs
    obtain ⟨x, rfl⟩ := am_isF_of h2
    cases h3
    exact lv_fload hx hb hd (hl.2.2.2 _ _ h1) (k ls hl)
  case fload_n i =>
    simp only [am_lo, beq_iff_eq] at hlo
    subst hlo
    simp only [am_simple] at hs
    obtain ⟨v, h1, h2, h3⟩ := am_lod_some hs
    obtain ⟨x, rfl⟩ := am_isF_of h2
    cases h3
    exact lv_fload_n hx hb hd rfl (hl.2.2.2 _ _ h1) (k ls hl)
  case dload i =>
    simp only [am_lo, beq_iff_eq] at hlo
    subst hlo
    simp only [am_simple] at hs
    obtain ⟨v, h1, h2, h3⟩ := am_lod_some hs
    obtain ⟨x, rfl⟩ := am_isD_of h2
    cases h3
    exact lv_dload hx hb hd (hl.2.2.2 _ _ h1) (k ls hl)
  case dload_n i =>
    simp only [am_lo, beq_iff_eq] at hlo
    subst hlo
    simp only [am_simple] at hs
    obtain ⟨v, h1, h2, h3⟩ := am_lod_some hs
    obtain ⟨x, rfl⟩ := am_isD_of h2
    cases h3
    exact lv_dload_n hx hb hd rfl (hl.2.2.2 _ _ h1) (k ls hl)
  case istore i =>
    simp only [am_lo, beq_iff_eq] at hlo
    subst hlo
    simp only [am_simple] at hs
    obtain ⟨v, st3, rfl, h2, h4, h3⟩ := am_stv_some hs
    obtain ⟨x, rfl⟩ := am_isI_of h2
    cases h3
    exact lv_istore hx hb hd (am_lh_has hl) (by omega) rfl (fun ls2 h => k ls2 (am_lh_sto hlen (by intro z; cases z) h))
  case istore_n i =>
    simp only [am_lo, beq_iff_eq] at hlo
    subst hlo
    simp only [am_simple] at hs
    obtain ⟨v, st3, rfl, h2, h4, h3⟩ := am_stv_some hs
    obtain ⟨x, rfl⟩ := am_isI_of h2
    cases h3
    exact lv_istore_n hx hb hd rfl (am_lh_has hl) (by omega) rfl (fun ls2 h => k ls2 (am_lh_sto hlen (by intro z; cases z) h))
  case fstore i =>
    simp only [am_lo, beq_iff_eq] at hlo
    subst hlo
    simp only [am_simple] at hs
    obtain ⟨v, st3, rfl, h2, h4, h3⟩ := am_stv_some hs
    obtain ⟨x, rfl⟩ := am_isF_of h2
    cases h3
    exact lv_fstore hx hb hd (am_lh_has hl) (by omega) rfl (fun ls2 h => k ls2 (am_lh_sto hlen (by intro z; cases z) h))
  case dstore i =>
    simp only [am_lo, beq_iff_eq] at hlo
    subst hlo
    simp only [am_simple] at hs
    obtain ⟨v, st3, rfl, h2, h4, h3⟩ := am_stw_some hs
    obtain ⟨x, rfl⟩ := am_isD_of h2
    cases h3
    exact lv_dstore hx hb hd (am_lh_has hl) (by omega) rfl (fun ls2 h => k ls2 (am_lh_sto2 hlen rfl h))
  case dstore_n i =>
    simp only [am_lo, beq_iff_eq] at hlo
    subst hlo
    simp only [am_simple] at hs
    obtain ⟨v, st3, rfl, h2, h4, h3⟩ := am_stw_some hs
    obtain ⟨x, rfl⟩ := am_isD_of h2
    cases h3
    exact lv_dstore_n hx hb hd rfl (am_lh_has hl) (by omega) rfl (fun ls2 h => k ls2 (am_lh_sto2 hlen rfl h))
  case iconst i =>
    simp only [am_lo, beq_iff_eq] at hlo
    subst hlo
    simp only [am_simple] at hs
    cases hs
    exact lv_iconst hx hb hd rfl (k ls hl)
  case bipush i =>
    simp only [am_lo, beq_iff_eq] at hlo
    subst hlo
    simp only [am_simple] at hs
    cases hs
    exact lv_bipush hx hb hd rfl (k ls hl)
  case sipush i =>
    simp only [am_lo, beq_iff_eq] at hlo
    subst hlo
    simp only [am_simple] at hs
    cases hs
    exact lv_sipush hx hb hd rfl (k ls hl)
  case fconst i =>
    simp only [am_lo, beq_iff_eq] at hlo
    subst hlo
    simp only [am_simple] at hs
    by_cases hq : i = 0
    · rw [if_pos hq] at hs; cases hs; subst hq; exact lv_fconst0 hx hb hd (k ls hl)
    · rw [if_neg hq] at hs; cases hs
  case dconst i =>
    simp only [am_lo, beq_iff_eq] at hlo
    subst hlo
    simp only [am_simple] at hs
    by_cases hq : i = 0
    · rw [if_pos hq] at hs; cases hs; subst hq; exact lv_dconst0 hx hb hd (k ls hl)
    · rw [if_neg hq] at hs; cases hs
  case iinc i n =>
    simp only [am_lo, beq_iff_eq] at hlo
    subst hlo
    simp only [am_simple] at hs
    split at hs
    next x hv =>
      by_cases hq : i < lv.length
      · rw [if_pos hq] at hs
        cases hs
        obtain ⟨j, hj⟩ := List.getElem?_of_mem (am_as_mem (ba := ba) (sx := sx) hv)
        exact lv_iinc (v := x + Int32.ofInt n) hx hb hd (am_lh_has hl) (k := j) hj rfl (by omega) rfl (fun ls2 h => k ls2 (am_lh_sto (v := .int (x + Int32.ofInt n)) hlen (by intro z; cases z) h))
      · rw [if_neg hq] at hs; cases hs
    next => cases hs
  case iadd =>
    simp only [am_lo, beq_iff_eq] at hlo
    subst hlo
    simp only [am_simple] at hs
    split at hs
    next y x st3 => cases hs; exact lv_iadd hx hb hd (k ls hl)
    next => cases hs
  case isub =>
    simp only [am_lo, beq_iff_eq] at hlo
    subst hlo
    simp only [am_simple] at hs
    split at hs
    next y x st3 => cases hs; exact lv_isub hx hb hd (k ls hl)
    next => cases hs
  case imul =>
    simp only [am_lo, beq_iff_eq] at hlo
    subst hlo
    simp only [am_simple] at hs
    split at hs
    next y x st3 => cases hs; exact lv_imul hx hb hd (k ls hl)
    next => cases hs
  case iand =>
    simp only [am_lo, beq_iff_eq] at hlo
    subst hlo
    simp only [am_simple] at hs
    split at hs
    next y x st3 => cases hs; exact lv_iand hx hb hd (k ls hl)
    next => cases hs
  case idiv =>
    simp only [am_lo, beq_iff_eq] at hlo
    subst hlo
    simp only [am_simple] at hs
    split at hs
    next y x st3 =>
      split at hs
      next => cases hs
      next hne => cases hs; exact lv_idiv hx hb hd hne (k ls hl)
    next => cases hs
  case irem =>
    simp only [am_lo, beq_iff_eq] at hlo
    subst hlo
    simp only [am_simple] at hs
    split at hs
    next y x st3 =>
      split at hs
      next => cases hs
      next hne => cases hs; exact lv_irem hx hb hd hne (k ls hl)
    next => cases hs
  case ixor =>
    simp only [am_lo, beq_iff_eq] at hlo
    subst hlo
    simp only [am_simple] at hs
    split at hs
    next y x st3 => cases hs; exact lv_ixor hx hb hd (k ls hl)
    next => cases hs
  case iushr =>
    simp only [am_lo, beq_iff_eq] at hlo
    subst hlo
    simp only [am_simple] at hs
    split at hs
    next y x st3 => cases hs; exact lv_iushr hx hb hd rfl (k ls hl)
    next => cases hs
  case ifnull off =>
    simp only [am_lo, beq_iff_eq] at hlo
    subst hlo
    simp only [am_simple] at hs
    split at hs
    next a st3 => cases hs; exact lv_ifnull hx hb hd (k ls hl)
    next => cases hs
  case ineg =>
    simp only [am_lo, beq_iff_eq] at hlo
    subst hlo
    simp only [am_simple] at hs
    split at hs
    next x st3 => cases hs; exact lv_ineg hx hb hd (k ls hl)
    next => cases hs
  case i2l =>
    simp only [am_lo, beq_iff_eq] at hlo
    subst hlo
    simp only [am_simple] at hs
    split at hs
    next x st3 => cases hs; exact lv_i2l hx hb hd rfl (k ls hl)
    next => cases hs
  case i2c =>
    simp only [am_lo, beq_iff_eq] at hlo
    subst hlo
    simp only [am_simple] at hs
    split at hs
    next x st3 => cases hs; exact lv_i2c hx hb hd rfl (k ls hl)
    next => cases hs
  case i2f =>
    simp only [am_lo, beq_iff_eq] at hlo
    subst hlo
    simp only [am_simple] at hs
    split at hs
    next x st3 => cases hs; exact lv_i2f hx hb hd (k ls hl)
    next => cases hs
  case i2d =>
    simp only [am_lo, beq_iff_eq] at hlo
    subst hlo
    simp only [am_simple] at hs
    split at hs
    next x st3 => cases hs; exact lv_i2d hx hb hd (k ls hl)
    next => cases hs
  case f2d =>
    simp only [am_lo, beq_iff_eq] at hlo
    subst hlo
    simp only [am_simple] at hs
    split at hs
    next x st3 =>
      split at hs
      next hq => cases hs; exact lv_f2d hx hb hd hq (k ls hl)
      next => cases hs
    next => cases hs
  case fdiv =>
    simp only [am_lo, beq_iff_eq] at hlo
    subst hlo
    simp only [am_simple] at hs
    split at hs
    next y x st3 =>
      split at hs
      next hq => cases hs; exact lv_fdiv hx hb hd hq (k ls hl)
      next => cases hs
    next => cases hs
  case ddiv =>
    simp only [am_lo, beq_iff_eq] at hlo
    subst hlo
    simp only [am_simple] at hs
    split at hs
    next y x st3 =>
      split at hs
      next hq => cases hs; exact lv_ddiv hx hb hd hq (k ls hl)
      next => cases hs
    next => cases hs
  case lcmp =>
    simp only [am_lo, beq_iff_eq] at hlo
    subst hlo
    simp only [am_simple] at hs
    split at hs
    next y x st3 => cases hs; exact W.lcmp hx hb hd (k ls hl)
    next => cases hs
  case dcmp op =>
    simp only [am_lo, beq_iff_eq] at hlo
    subst hlo
    simp only [am_simple] at hs
    split at hs
    next y x st3 => cases hs; exact lv_dcmp hx hb hd (k ls hl)
    next => cases hs
  case fcmp op =>
    simp only [am_lo, beq_iff_eq] at hlo
    subst hlo
    simp only [am_simple] at hs
    split at hs
    next y x st3 => cases hs; exact lv_fcmp hx hb hd (k ls hl)
    next => cases hs
  case dup =>
    simp only [am_lo, beq_iff_eq] at hlo
    subst hlo
    simp only [am_simple] at hs
    split at hs
    next v st3 =>
      split at hs
      next hq => cases hs; exact lv_dup hx hb hd ((am_v_cat ba sx v).trans hq) (k ls hl)
      next => cases hs
    next => cases hs
  case dup2 =>
    simp only [am_lo, beq_iff_eq] at hlo
    subst hlo
    simp only [am_simple] at hs
    split at hs
    next v w st3 =>
      split at hs
      next hq =>
        split at hs
        next hq2 => cases hs; exact lv_dup2_11 hx hb hd ((am_v_cat ba sx v).trans hq) ((am_v_cat ba sx w).trans hq2) (k ls hl)
        next => cases hs
      next => cases hs
    next => cases hs
  case pop =>
    simp only [am_lo, beq_iff_eq] at hlo
    subst hlo
    simp only [am_simple] at hs
    split at hs
    next v st3 =>
      split at hs
      next hq => cases hs; exact lv_pop hx hb hd ((am_v_cat ba sx v).trans hq) (k ls hl)
      next => cases hs
    next => cases hs
  case goto off =>
    simp only [am_lo, beq_iff_eq] at hlo
    subst hlo
    simp only [am_simple] at hs
    split at hs
    next hq => cases hs; exact lv_goto hx hb hd (by unfold am_tgt; omega) (k ls hl)
    next => cases hs
  case ifCond cd off =>
    simp only [am_lo, beq_iff_eq] at hlo
    subst hlo
    simp only [am_simple] at hs
    split at hs
    next x st3 =>
      obtain ⟨h1, h2⟩ := am_br_some hs
      cases h2
      exact am_if_W hx hb hd h1 (k ls hl)
    next => cases hs
  case if_icmp cd off =>
    simp only [am_lo, beq_iff_eq] at hlo
    subst hlo
    simp only [am_simple] at hs
    split at hs
    next y x st3 =>
      obtain ⟨h1, h2⟩ := am_br_some hs
      cases h2
      exact am_icmp_W hx hb hd h1 (k ls hl)
    next => cases hs
  case tableswitch df lo hi offs =>
    simp only [am_lo, beq_iff_eq] at hlo
    simp only [am_simple] at hs
    split at hs
    next x st3 =>
      split at hs
      next hq =>
        split at hs
        next hz => cases hs; exact lv_tableOut hx hb hd hq (by unfold am_tgt; omega) (k ls hl)
        next => cases hs
      next hq =>
        split at hs
        next off hoff =>
          split at hs
          next hz => cases hs; exact lv_tableIn hx hb hd (fun z => hq (Or.inl z)) (fun z => hq (Or.inr z)) hoff (by unfold am_tgt; omega) (k ls hl)
          next => cases hs
        next => cases hs
    next => cases hs
end AMS
