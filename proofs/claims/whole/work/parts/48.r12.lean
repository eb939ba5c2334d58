/-! REFERENCE, 12: all commands read from the text; written by program (wip/tools/zg/r12.py) -/
set_option maxRecDepth 100000 in
set_option maxHeartbeats 800000 in
theorem zs_X10_isText_L15 {d : Nat} {s : az_S} (hd : 8 ≤ d) {n : Nat} {T : Nat → Int} (hT0 : zTy s n T) : ∀ (mq : Nat) (c : Nat) (i : Nat) (m : Nat) (u : az_S) (t : az_S), mq = m → (c + m = 10) → (6 * c ≤ i) → (i ≤ n) → (zTy t n T) → (∃ o, zRB T i c u o t) → az_R d am_m_X10_isText 15 [some (az_r 34), some (az_i (az_b (0 ≤ zfk T i)))] [] (t) (zPB T n (m + 1) c i u) := by
  intro mq
  induction mq using Nat.strongRecOn with
  | _ mq ih =>
    intro c i m u t hm g0 g1 g2 g3 g4
    have hT := g3
    have h60 : n ≤ 60 := g3.2.1
    obtain ⟨o1, H1⟩ := g4
    refine az_to 1 (pc2 := 16) (lv2 := [some (az_r 34), some (az_i (az_b (0 ≤ zfk T i)))]) (st2 := [az_i (az_b (0 ≤ zfk T i))]) (s2 := t) rfl ?_
    refine az_ifbe 36 19 rfl (by decide) (fun h1 => ?_) (fun h1 => ?_)
    · have h1 : ¬ (0 ≤ zfk T i) := h1
      refine az_to 1 (pc2 := 37) (lv2 := [some (az_r 34), some (az_i (az_b (0 ≤ zfk T i)))]) (st2 := [az_i (az_b (0 ≤ zfk T i))]) (s2 := t) rfl ?_
      refine az_ifbe 55 40 rfl (by decide) (fun h2 => ?_) (fun h2 => ?_)
      · have h2 : ¬ (0 ≤ zfk T i) := h2
        refine az_to 1 (pc2 := 56) (lv2 := [some (az_r 34), some (az_i (az_b (0 ≤ zfk T i)))]) (st2 := [az_i (0)]) (s2 := t) rfl ?_
        refine az_retB rfl rfl (by first | decide | omega | exact Or.inl rfl | exact Or.inr rfl) ?_
        exact zPB_0 (by assumption) H1 rfl rfl (fun _ _ => rfl) (fun _ _ => rfl)
      · have h2 : 0 ≤ zfk T i := h2
        exact absurd h2 (by first | assumption | omega)
    · have h1 : 0 ≤ zfk T i := h1
      obtain ⟨b1, b2, b3, b4⟩ := H1.2.1 h1
      have hok := zfk_ok h1
      have hkr := zfk_r (T := T) (i := i)
      have hJn := zms_n (T := T) (s := fun a b => if a = 22 then ((n : Nat) : Int) else T b) ⟨rfl, hT.2.1, fun k _ => rfl, hT.2.2.2.1, hT.2.2.2.2⟩ _ i (zF_p (zfk T i).toNat (by omega)) g2 hok.1
      refine az_to 2 (pc2 := 22) (lv2 := [some (az_r 34), some (az_i (az_b (0 ≤ zfk T i)))]) (st2 := [az_i (59), az_r 34]) (s2 := t) rfl ?_
      refine az_cl (m2 := am_m_X10_isSign) (as := [az_r 34, az_i (59)]) (rest := []) 25 rfl rfl ⟨rfl, rfl⟩ (by omega) (zs_X10_isSign (s := t) (ch := 59) (ix := (zms T (zF (zfk T i).toNat) i).1) (by omega) hT (by omega) b1 (by omega)) (fun v3 t3 q3 => ?_) (fun E t3 q3 => by cases q3.1)
      obtain ⟨o3, qa3, qb3, qc3⟩ := q3
      cases o3
      have hT3 := zTy_t (s := t) hT qc3
      refine az_to 0 (pc2 := 25) (lv2 := [some (az_r 34), some (az_i (az_b (0 ≤ zfk T i)))]) (st2 := [az_i (az_b (T (zms T (zF (zfk T i).toNat) i).1 = 59))]) (s2 := t3) rfl ?_
      refine az_ifbe 36 28 rfl (by decide) (fun h4 => ?_) (fun h4 => ?_)
      · have h4 : ¬ (T (zms T (zF (zfk T i).toNat) i).1 = 59) := h4
        have hat2 : t3 34 18 = (((zms T (zF (zfk T i).toNat) i).1 : Nat) : Int) := by rw [qa3, if_neg h4]
        refine az_to 1 (pc2 := 37) (lv2 := [some (az_r 34), some (az_i (az_b (0 ≤ zfk T i)))]) (st2 := [az_i (az_b (0 ≤ zfk T i))]) (s2 := t3) rfl ?_
        refine az_ifbe 55 40 rfl (by decide) (fun h5 => ?_) (fun h5 => ?_)
        · have h5 : ¬ (0 ≤ zfk T i) := h5
          exact absurd h5 (by first | assumption | omega)
        · have h5 : 0 ≤ zfk T i := h5
          refine az_to 2 (pc2 := 44) (lv2 := [some (az_r 34), some (az_i (az_b (0 ≤ zfk T i)))]) (st2 := [az_i (t3 34 18)]) (s2 := t3) rfl ?_
          refine az_to 0 (pc2 := 44) (lv2 := [some (az_r 34), some (az_i (az_b (0 ≤ zfk T i)))]) (st2 := [az_i ((((zms T (zF (zfk T i).toNat) i).1 : Nat) : Int))]) (s2 := t3) (by rw [show t3 34 18 = (((zms T (zF (zfk T i).toNat) i).1 : Nat) : Int) from hat2]; rfl) ?_
          refine az_to 2 (pc2 := 48) (lv2 := [some (az_r 34), some (az_i (az_b (0 ≤ zfk T i)))]) (st2 := [az_i (t3 34 17), az_i ((((zms T (zF (zfk T i).toNat) i).1 : Nat) : Int))]) (s2 := t3) rfl ?_
          refine az_to 0 (pc2 := 48) (lv2 := [some (az_r 34), some (az_i (az_b (0 ≤ zfk T i)))]) (st2 := [az_i (((n : Nat) : Int)), az_i ((((zms T (zF (zfk T i).toNat) i).1 : Nat) : Int))]) (s2 := t3) (by rw [show t3 34 17 = ((n : Nat) : Int) from hT3.1]; rfl) ?_
          refine az_if2 55 51 rfl (by decide) (by first | assumption | exact ⟨by omega, by omega⟩) (by first | assumption | exact ⟨by omega, by omega⟩) (fun h6 => ?_) (fun h6 => ?_)
          · have h6 : ¬ (((zms T (zF (zfk T i).toNat) i).1 : Nat) : Int) = ((n : Nat) : Int) := h6
            refine az_to 1 (pc2 := 56) (lv2 := [some (az_r 34), some (az_i (az_b (0 ≤ zfk T i)))]) (st2 := [az_i (0)]) (s2 := t3) rfl ?_
            refine az_retB rfl rfl (by first | decide | omega | exact Or.inl rfl | exact Or.inr rfl) ?_
            exact zPB_2 h1 (by omega) h4 H1 rfl (by rw [hat2, b1]) (fun j0 h0 => qc3.1 j0 h0) (fun j0 j1 => by
              by_cases q : j0 = 42
              · rw [q]; exact qb3
              · exact qc3.2 j0 j1 q)
          · have h6 : (((zms T (zF (zfk T i).toNat) i).1 : Nat) : Int) = ((n : Nat) : Int) := Decidable.not_not.mp h6
            refine az_to 2 (pc2 := 56) (lv2 := [some (az_r 34), some (az_i (az_b (0 ≤ zfk T i)))]) (st2 := [az_i (1)]) (s2 := t3) rfl ?_
            refine az_retB rfl rfl (by first | decide | omega | exact Or.inl rfl | exact Or.inr rfl) ?_
            exact zPB_1 h1 (by omega) H1 rfl (fun j0 h0 => qc3.1 j0 h0) (fun j0 j1 => by
              by_cases q : j0 = 42
              · rw [q]; exact qb3
              · exact qc3.2 j0 j1 q)
      · have h4 : T (zms T (zF (zfk T i).toNat) i).1 = 59 := h4
        have hJ2 : (zms T (zF (zfk T i).toNat) i).1 < n := zTn hT (by omega)
        have hat2 : t3 34 18 = ((((zms T (zF (zfk T i).toNat) i).1 + 1) : Nat) : Int) := by rw [qa3, if_pos h4]
        have hc2 : t3 34 19 = (((c + 1) : Nat) : Int) := by rw [qc3.1 19 (by decide)]; exact b2
        refine az_to 1 (pc2 := 29) (lv2 := [some (az_r 34), some (az_i (az_b (0 ≤ zfk T i)))]) (st2 := [az_r 34]) (s2 := t3) rfl ?_
        refine az_cl (m2 := am_m_X10_readsCommand) (as := [az_r 34]) (rest := []) 32 rfl rfl ⟨rfl, rfl⟩ (by omega) (zs_X10_readsCommand (s := t3) (ix := ((zms T (zF (zfk T i).toNat) i).1 + 1)) (by omega) hT3 (by omega) hat2 hc2 (by omega)) (fun v7 t7 q7 => ?_) (fun E t7 q7 => by cases q7.1)
        have H7 := q7
        have o7 := q7.1
        cases o7
        have hT7 : zTy t7 n T := ⟨by rw [H7.2.2.2.2.1 17 (by decide) (by decide) (by decide)]; exact hT3.1, hT.2.1, fun k hk => by rw [H7.2.2.2.2.2 41 (by decide) (by decide)]; exact hT3.2.2.1 k hk, hT.2.2.2⟩
        refine az_to 0 (pc2 := 32) (lv2 := [some (az_r 34), some (az_i (az_b (0 ≤ zfk T i)))]) (st2 := [az_i (az_b (0 ≤ zfk T ((zms T (zF (zfk T i).toNat) i).1 + 1)))]) (s2 := t7) rfl ?_
        refine az_to 2 (pc2 := 15) (lv2 := [some (az_r 34), some (az_i (az_b (0 ≤ zfk T ((zms T (zF (zfk T i).toNat) i).1 + 1))))]) (st2 := []) (s2 := t7) rfl ?_
        obtain ⟨m2, rfl⟩ : ∃ m2, m = m2 + 1 := ⟨m - 1, by omega⟩
        refine az_wk (ih m2 (by omega) (c + 1) ((zms T (zF (zfk T i).toNat) i).1 + 1) m2 t3 t7 rfl (by omega) (by omega) (by omega) hT7 ⟨_, H7⟩) (fun o t9 hQ => ?_)
        exact zPB_c h1 (by omega) h4 (zms_4 (by omega)) H1 (fun j0 h0 => qc3.1 j0 h0) (fun j0 j1 => by
          by_cases q : j0 = 42
          · rw [q]; exact qb3
          · exact qc3.2 j0 j1 q) hQ
set_option maxRecDepth 100000 in
set_option maxHeartbeats 800000 in
theorem zs_X10_isText {d : Nat} {s : az_S} (hd : 8 ≤ d) {n : Nat} {T : Nat → Int} (hT0 : zTy s n T) : az_R d am_m_X10_isText 0 (az_ini (am_mL am_m_X10_isText) [az_r 34]) [] (s) (fun o t => ∃ u, u 42 = s 42 ∧ (∀ j, j ≠ 18 → j ≠ 19 → u 34 j = s 34 j) ∧ (∀ j, j ≠ 34 → u j = s j) ∧ zPB T n 11 0 0 u o t) := by
  have hT := hT0
  have h60 : n ≤ 60 := hT.2.1
  refine az_to 0 (pc2 := 0) (lv2 := [some (az_r 34), none]) (st2 := []) (s2 := s) rfl ?_
  refine az_to 7 (pc2 := 11) (lv2 := [some (az_r 34), none]) (st2 := [az_r 34]) (s2 := am_up (am_up s 34 18 (0)) 34 19 (0)) rfl ?_
  refine az_cl (m2 := am_m_X10_readsCommand) (as := [az_r 34]) (rest := []) 14 rfl rfl ⟨rfl, rfl⟩ (by omega) (zs_X10_readsCommand (s := am_up (am_up s 34 18 (0)) 34 19 (0)) (ix := 0) (by omega) hT0 (by omega) (by rfl) (c := 0) (by rfl) (by omega)) (fun v8 t8 q8 => ?_) (fun E t8 q8 => by cases q8.1)
  have H8 := q8
  have o8 := q8.1
  cases o8
  have hT8 : zTy t8 n T := ⟨by rw [H8.2.2.2.2.1 17 (by decide) (by decide) (by decide)]; exact hT0.1, hT.2.1, fun k hk => by rw [H8.2.2.2.2.2 41 (by decide) (by decide)]; exact hT0.2.2.1 k hk, hT.2.2.2⟩
  refine az_to 0 (pc2 := 14) (lv2 := [some (az_r 34), none]) (st2 := [az_i (az_b (0 ≤ zfk T 0))]) (s2 := t8) rfl ?_
  refine az_to 1 (pc2 := 15) (lv2 := [some (az_r 34), some (az_i (az_b (0 ≤ zfk T 0)))]) (st2 := []) (s2 := t8) rfl ?_
  exact az_wk (zs_X10_isText_L15 (by omega) hT0 10 0 0 10 (am_up (am_up s 34 18 (0)) 34 19 (0)) t8 rfl (by omega) (by omega) (by omega) hT8 ⟨_, H8⟩) (fun o t hQ => ⟨am_up (am_up s 34 18 (0)) 34 19 (0), rfl, fun j h1 h2 => by simp [am_up, h1, h2], fun j h1 => by funext b; simp [am_up, h1], hQ⟩)
