/-! THE JVM ANSWERS WHAT THE SMALL MACHINE ANSWERS, 6: every run -/
theorem am_map_some {α β : Type} {f : α → β} {o : Option α} {b : β} (h : o.map f = some b) : ∃ a, o = some a ∧ f a = b := by
  cases o with
  | none => cases h
  | some a => cases h; exact ⟨a, rfl, rfl⟩
section AMG
variable {p : Program} {l : Launch} {e : Env} {R : Room} {s : State} {m : MethodId} {args : Array Value} {below : List Frame} {meth : Method} {c : Code} {H : Heap} {locs : List Loc} {cells slots : Nat} {Q : State → Prop}
variable {D : va_G} {cT : Nat → ClassId} {ba : Nat} {sx : Nat → Nat} {L : Nat} {xs : Nat → Int32} {ex : List Cond} {EV : State → Heap → Prop} {mt : am_M1} {d pc : Nat} {ls : Array Slot}
/-- which classes of exceptions are none of another's -/
def am_exR (ba : Nat) (ex : List Cond) (EV : State → Heap → Prop) : Prop := (∀ (U : State) (H : Heap), EV U H → ∀ i, i < 6 → va_Nw (.castable (am_en i) (am_en i)) U) ∧ ∀ (U : State) (H : Heap), EV U H → ∀ i j : Nat, i < 6 → j < 6 → i ≠ j → va_Nc (am_en i) (am_en j) U
theorem am_pass (hX : am_exR ba ex EV) (hEV : EV s s.heap) (ho : am_own mt < 12) (hts : ∀ w ∈ am_WS ex, w.before args s = true) {E : Nat} (hE : E < 6) {z : Nat × Nat × Nat × Nat} (h : (¬ (z.1 ≤ pc ∧ pc < z.2.1)) ∨ ∃ E2 p, am_find z.2.2.2 (am_qT (am_own mt)) = some (E2, p) ∧ E2 ≠ E) :
    covers (⟨z.1, z.2.1, z.2.2.1, z.2.2.2⟩ : ExceptionTableEntry) pc = false ∨ (z.2.2.2 ≠ 0 ∧ ∃ nm : String, (Cond.classLink (am_cn (am_own mt)) z.2.2.2 nm).before args s = true ∧ va_Nc (am_en E) nm s) := by
  rcases h with h | ⟨E2, p9, hf, hne⟩
  · left
    unfold covers
    simp only [Bool.and_eq_false_iff, decide_eq_false_iff_not]
    by_cases hq : z.1 ≤ pc
    · exact Or.inr (fun q => h ⟨hq, q⟩)
    · exact Or.inl hq
  · right
    obtain ⟨w1, w2⟩ := am_qT_ok _ ho _ (am_find_mem hf)
    have w3 := am_qT_nz _ ho _ (am_find_mem hf)
    exact ⟨w3, am_en E2, hts _ (am_WS_at w1), hX.2 s s.heap hEV E E2 hE w2 (Ne.symm hne)⟩
theorem am_sim_all (hSL : am_strL l ba sx ex EV) (hSC : am_strC l ba sx ex EV) (hSR : am_strR sx EV) (hNW : am_nwR EV) (hev : am_EVm ba EV) (hgd : ∀ w ∈ am_WS ex, goodWord w = true) (hTR : am_thrR l D cT ba sx L xs ex EV) (hXR : am_exR ba ex EV) (hsx : sx 0 < ba) : ∀ n : Nat, am_Sim l D cT ba sx L xs ex EV n := by
  intro n
  induction n with
  | zero =>
    intro p e R s m args below meth c H locs cells slots mt d pc mc ms lv st h ph r ls F hl hW hS hrun
    exact absurd hrun (by simp [am_run])
  | succ n IH =>
    intro p e R s m args below meth c H locs cells slots mt d pc mc ms lv st h ph r ls F hl hW hS hrun hc hs hcR hsR
    have F0' := F
    obtain ⟨⟨hx, hb, hr, hml, hown, hlk, htb, hnm⟩, ⟨hts, hK, hX, hsx, hbs, hEV⟩, ⟨hdec, ho, hmL, hfr, hlc⟩⟩ := F
    unfold am_run at hrun
    cases hf : am_find pc (am_c mt) with
    | none => rw [hf] at hrun; cases hrun
    | some q =>
      obtain ⟨ins, len⟩ := q
      rw [hf] at hrun
      dsimp only at hrun
      obtain ⟨hd, hlo⟩ := hdec _ (am_find_mem hf)
      dsimp only at hd hlo
      cases h1 : am_simple ins len pc lv st with
      | some q =>
        obtain ⟨pc2, lv2, st2⟩ := q
        rw [h1] at hrun
        dsimp only at hrun
        exact am_simple_W hx hb hd hlo hl h1 (fun ls2 hl2 => IH F0' hl2 ⟨hW.1, fun q => hW.2 (by
          cases ph with
          | true => rfl
          | false => simp at q)⟩ hS hrun hc hs hcR hsR)
      | none =>
        rw [h1] at hrun
        dsimp only at hrun
        cases h2 : am_heap L xs mt ins st h ph with
        | some q =>
          obtain ⟨st2, h2', ph2, c2, s2⟩ := q
          rw [h2] at hrun
          dsimp only at hrun
          obtain ⟨r0, hr0, rfl⟩ := am_map_some hrun
          simp only [am_add] at hc hs
          refine am_heap_W hSL hSC hSR hNW F0' hl.1 hd hlo hW hS h2 (by omega) (by omega) (fun H1 locs1 hW1 hS1 => ?_)
          exact IH (r := r0) F0' hl hW1 hS1 hr0 (by omega) (by omega) hcR hsR
        | none =>
          rw [h2] at hrun
          dsimp only at hrun
          cases h3 : am_call mt ins st h with
          | some q =>
            obtain ⟨m2, as, rest⟩ := q
            rw [h3] at hrun
            dsimp only at hrun
            cases d with
            | zero => cases hrun
            | succ d2 =>
              dsimp only at hrun
              cases h4 : am_run L xs n d2 m2 0 (am_ini (am_mL m2) as) [] h ph with
              | none => rw [h4] at hrun; cases hrun
              | some r2 =>
                rw [h4] at hrun
                obtain ⟨o2, h2', ph2, c2, s2⟩ := r2
                cases o2 with
                | inl v =>
                  dsimp only at hrun
                  obtain ⟨r0, hr0, rfl⟩ := am_map_some hrun
                  simp only [am_add] at hc hs
                  obtain ⟨rfl, a, hv⟩ := am_call_run IH hev hNW hgd F0' hl.1 hd hlo hW hS h3 h4 (by show cells + c2 ≤ _; omega) (by show slots + s2 ≤ _; omega)
                  refine am_callG hv hS (fun v9 H1 locs1 e9 hW1 hS1 => ?_) (fun i ce q9 H1 locs1 hi e9 => by cases e9)
                  cases e9
                  have k9 := IH (r := r0) (e := e) (below := below) (cells := cells + c2) (slots := slots + s2) F0' hl hW1 hS1 hr0 (by omega) (by omega) hcR hsR
                  rw [List.map_append] at k9
                  have e8 : v.toList.map (am_v ba sx) = (v.map (am_v ba sx)).toList := by cases v <;> rfl
                  rw [e8] at k9
                  exact k9
                | inr E =>
                  dsimp only at hrun
                  cases h5 : am_hand (am_own mt) pc E (am_hh mt) with
                  | none => rw [h5] at hrun; cases hrun
                  | some o5 =>
                    rw [h5] at hrun
                    have hsp := am_hand_split h5
                    cases o5 with
                    | none =>
                      dsimp only at hrun hsp
                      cases hrun
                      simp only at hc hs
                      obtain ⟨rfl, a, hv⟩ := am_call_run IH hev hNW hgd F0' hl.1 hd hlo hW hS h3 h4 (by show cells + c2 ≤ _; omega) (by show slots + s2 ≤ _; omega)
                      refine am_callG hv hS (fun v9 H1 locs1 e9 => by cases e9) (fun i ce q9 H1 locs1 hi e9 hW1 hS1 g1 g2 g3 => ?_)
                      cases e9
                      refine vx_outP (own := am_cn (am_own mt)) (E := am_en E) hown hlk (fun z hz => ?_) g1 g2 g3 (fun t ht hal => ⟨E, hi, rfl, rfl, by rw [ht]; exact hW1, hS1.F ht⟩) hS1.2.2 hc hs
                      rw [htb] at hz
                      obtain ⟨z9, hz9, rfl⟩ := List.mem_map.mp hz
                      exact am_pass hXR hEV ho hts hi (hsp z9 hz9)
                    | some hp =>
                      dsimp only at hrun hsp
                      cases h6 : am_caught mt hp lv with
                      | none => rw [h6] at hrun; cases hrun
                      | some q6 =>
                        obtain ⟨pc2, lv2⟩ := q6
                        rw [h6] at hrun
                        dsimp only at hrun
                        obtain ⟨r0, hr0, rfl⟩ := am_map_some hrun
                        simp only [am_add] at hc hs
                        obtain ⟨rfl, a, hv⟩ := am_call_run IH hev hNW hgd F0' hl.1 hd hlo hW hS h3 h4 (by show cells + c2 ≤ _; omega) (by show slots + s2 ≤ _; omega)
                        refine am_callG hv hS (fun v9 H1 locs1 e9 => by cases e9) (fun i ce q9 H1 locs1 hi e9 hW1 hS1 g1 g2 g3 => ?_)
                        cases e9
                        obtain ⟨pre, x, suf, x1, x2, x3, x4, p9, x5⟩ := hsp
                        obtain ⟨w1, w2⟩ := am_qT_ok _ ho _ (am_find_mem x5)
                        have w3 := am_qT_nz _ ho _ (am_find_mem x5)
                        refine vx_catch (own := am_cn (am_own mt)) (name := am_en E) (E := am_en E) hown (pre.map fun q => ⟨q.1, q.2.1, q.2.2.1, q.2.2.2⟩) ⟨x.1, x.2.1, x.2.2.1, x.2.2.2⟩ (suf.map fun q => ⟨q.1, q.2.1, q.2.2.1, q.2.2.2⟩) (by rw [htb, x1]; simp [tableOf]) (fun z hz => ?_) (by unfold covers; simp [x3.1, x3.2]) w3 (hts _ (am_WS_at w1)) (va_Nw.use rfl (hXR.1 s s.heap hEV E hi)) g1 g2 g3 ?_
                        · obtain ⟨z9, hz9, rfl⟩ := List.mem_map.mp hz
                          exact am_pass hXR hEV ho hts hi (x2 z9 hz9)
                        · show W p l e R s m args below meth c H1 locs1 (cells + c2) (slots + s2) _ (F0 m x.2.2.1 ls [.ref q9])
                          rw [x4]
                          unfold am_caught at h6
                          split at h6
                          next i9 ln9 hf9 =>
                            obtain ⟨hd9, hlo9⟩ := hdec _ (am_find_mem hf9)
                            dsimp only at hd9 hlo9
                            simp only [am_lo, beq_iff_eq] at hlo9
                            subst hlo9
                            split at h6
                            next hlt =>
                              cases h6
                              refine lv_astore hx hb hd9 (am_lh_has hl) (by rw [← hl.2.2.1]; exact hlt) rfl (fun ls2 hl2 => ?_)
                              exact IH (r := r0) (st := []) F0' (am_lh_kill hl.2.2.1 hl2) hW1 hS1 hr0 (by omega) (by omega) hcR hsR
                            next => cases h6
                          next i9 ln9 hf9 =>
                            obtain ⟨hd9, hlo9⟩ := hdec _ (am_find_mem hf9)
                            dsimp only at hd9 hlo9
                            simp only [am_lo, beq_iff_eq] at hlo9
                            subst hlo9
                            split at h6
                            next hlt =>
                              cases h6
                              refine lv_astore_n hx hb hd9 rfl (am_lh_has hl) (by rw [← hl.2.2.1]; exact hlt) rfl (fun ls2 hl2 => ?_)
                              exact IH (r := r0) (st := []) F0' (am_lh_kill hl.2.2.1 hl2) hW1 hS1 hr0 (by omega) (by omega) hcR hsR
                            next => cases h6
                          next => cases h6
          | none =>
            rw [h3] at hrun
            dsimp only at hrun
            cases h7 : am_ret (am_rt mt) ins st with
            | some v =>
              rw [h7] at hrun
              dsimp only at hrun
              cases hrun
              simp only at hc hs
              exact am_ret_W F0' hd hlo hW hS h7 rfl rfl rfl (by omega) (by omega)
            | none =>
              rw [h7] at hrun
              dsimp only at hrun
              cases h8 : am_thr mt ins pc st with
              | none => rw [h8] at hrun; cases hrun
              | some E =>
                rw [h8] at hrun
                dsimp only at hrun
                cases hrun
                simp only at hc hs
                have hcs8 : am_cs st ≤ 8 := by
                  unfold am_thr at h8
                  split at h8
                  next =>
                    split at h8
                    next =>
                      split at h8
                      next hq => exact hq.1.2.2
                      next => cases h8
                    next => cases h8
                  next => cases h8
                refine hTR F0' hl.1 hf h8 (by rw [am_cs_map]; exact hcs8) hS hc hs (by omega) (by omega) (fun t hal hsz hkeep hE6 => ⟨E, hE6, rfl, rfl, ⟨?_, fun q => by cases q⟩, ?_⟩)
                · exact hW.1.kept (fun k9 q9 hq9 => hkeep q9.1 ((hW.1 k9 q9 hq9).lt))
                · exact ⟨Nat.le_trans hS.1 hsz, fun q h1 h2 => by rw [hkeep q (Nat.lt_of_lt_of_le h1 hS.1)]; exact hS.2.1 q h1 h2⟩
end AMG
