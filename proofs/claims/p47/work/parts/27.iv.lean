/-! WHAT HOLDS OF THE ROW HOLDS BEHIND EACH COMMAND -/
theorem zI_up {S : zR} {h h2 : Nat} (hI : zInv S h) (hle : h ≤ h2) : zInv S h2 := zV_hour_id hI hle
theorem zIv_post {S : zR} {h : Nat} (hI : zInv S h) (t b : Int) : zInv (zo_post S t b).2.2.2 (h + 1) := by
  have hn := zn_le hI
  have hz := zn_eq hI
  unfold zo_post
  split
  · exact zI_up hI (by omega)
  · rename_i q1
    obtain ⟨t, rfl⟩ : ∃ n : Nat, t = n := ⟨t.toNat, by omega⟩
    obtain ⟨b, rfl⟩ : ∃ n : Nat, b = n := ⟨b.toNat, by omega⟩
    simp only [Int.toNat_natCast]
    split
    · exact zI_up hI (by omega)
    · split
      · exact zI_up hI (by omega)
      · split
        · exact zI_up hI (by omega)
        · rename_i q2 q3 q4
          have ht := hI.2.2.2.1 t (by omega)
          unfold zIt at ht
          exact zV_post hI (by omega) (by omega) ⟨by omega, by omega⟩ (Or.inr (by rw [Int.toNat_natCast]; exact q4)) (by
            by_cases q : zT S t 0 = -1
            · exact Or.inl q
            · exact Or.inr (fun q5 => q3 ⟨by omega, q5⟩))
theorem zIv_leave {S : zR} {h : Nat} (hI : zInv S h) (t : Int) : zInv (zo_leave S t).2.2.2 (h + 1) := by
  have hn := zn_le hI
  have hz := zn_eq hI
  have hz1 := hI.1
  unfold zo_leave
  split
  · exact zI_up hI (by omega)
  · rename_i q1
    obtain ⟨t, rfl⟩ : ∃ n : Nat, t = n := ⟨t.toNat, by omega⟩
    simp only [Int.toNat_natCast]
    split
    · exact zI_up hI (by omega)
    · split
      · exact zI_up hI (by omega)
      · rename_i q2 q3
        exact zV_post hI (by omega) (by omega) ⟨by omega, by omega⟩ (Or.inl rfl) (Or.inr q3)
theorem zIv_riddle {S : zR} {h : Nat} (hI : zInv S h) (t d n : Int) : zInv (zo_riddle S t d n).2.2.2 (h + 1) := by
  have hn := zn_le hI
  have hz := zn_eq hI
  have hz1 := hI.1
  unfold zo_riddle
  split
  · exact zI_up hI (by omega)
  · rename_i q1
    obtain ⟨t, rfl⟩ : ∃ n : Nat, t = n := ⟨t.toNat, by omega⟩
    simp only [Int.toNat_natCast]
    split
    · exact zI_up hI (by omega)
    · rename_i q2
      split
      · exact zI_up hI (by omega)
      · have k1 := zV_diff hI (Nat.le_refl h) (t := t) (by omega) (v := d) ⟨by omega, by omega⟩
        refine zV_until k1 (by omega) (by omega) ⟨by omega, by omega, ?_⟩
        have e : zT (zup S (126 + 4 * t + 2) d) t 2 = d := zup_eq _ _ _
        rw [e]
        omega
theorem zIv_fog {S : zR} {h : Nat} (hI : zInv S h) (b n : Int) : zInv (zo_fog S b n).2.2.2 (h + 1) := by
  have hz1 := hI.1
  unfold zo_fog
  split
  · exact zI_up hI (by omega)
  · rename_i q1
    obtain ⟨b, rfl⟩ : ∃ n : Nat, b = n := ⟨b.toNat, by omega⟩
    simp only [Int.toNat_natCast]
    split
    · exact zI_up hI (by omega)
    · split
      · exact zI_up hI (by omega)
      · exact zV_fog hI (by omega) (by omega) ⟨by omega, by omega⟩
theorem zIv_price {S : zR} {h : Nat} (hI : zInv S h) (b r : Int) : zInv (zo_price S b r).2.2.2 (h + 1) := by
  unfold zo_price
  split
  · exact zI_up hI (by omega)
  · rename_i q1
    obtain ⟨b, rfl⟩ : ∃ n : Nat, b = n := ⟨b.toNat, by omega⟩
    simp only [Int.toNat_natCast]
    split
    · exact zI_up hI (by omega)
    · split
      · exact zI_up hI (by omega)
      · split
        · exact zI_up hI (by omega)
        · exact zV_toll hI (by omega) (by omega) ⟨by omega, by omega⟩
theorem zIv_dispute {S : zR} {h : Nat} (hI : zInv S h) (g b : Int) : zInv (zo_dispute S g b).2.2.2 (h + 1) := by
  have hz := zn_eq hI
  unfold zo_dispute
  split
  · exact zI_up hI (by omega)
  · rename_i q1
    obtain ⟨b, rfl⟩ : ∃ n : Nat, b = n := ⟨b.toNat, by omega⟩
    obtain ⟨g, rfl⟩ : ∃ n : Nat, g = n := ⟨g.toNat, by omega⟩
    simp only [Int.toNat_natCast]
    split
    · exact zI_up hI (by omega)
    · split
      · exact zI_up hI (by omega)
      · exact zV_disp hI (by omega) (by omega) ⟨by omega, by omega, fun _ => by omega⟩
theorem zIv_strike {S : zR} {h : Nat} (hI : zInv S h) (g v : Int) (hv : 0 ≤ v ∧ v ≤ 1) : zInv (zo_strike S g v).2.2.2 (h + 1) := by
  unfold zo_strike
  split
  · exact zI_up hI (by omega)
  · rename_i q1
    obtain ⟨g, rfl⟩ : ∃ n : Nat, g = n := ⟨g.toNat, by omega⟩
    simp only [Int.toNat_natCast]
    split
    · exact zI_up hI (by omega)
    · exact zV_strike hI (by omega) (by omega) hv
theorem zIv_pass {S : zR} {h : Nat} (hI : zInv S h) (n : Int) : zInv (zo_pass S n).2.2.2 (h + 1) := by
  have hz := hI.1
  unfold zo_pass
  split
  · exact zI_up hI (by omega)
  · exact zV_hour hI (by omega) ⟨by omega, by omega⟩
theorem zIv_cross {S : zR} {h : Nat} (hI : zInv S h) (hh : h ≤ 10000) (g b : Int) : zInv (zo_cross S g b).2.2.2 (h + 1) := by
  have hn := zn_le hI
  unfold zo_cross
  split
  · exact zI_up hI (by omega)
  · rename_i q1
    obtain ⟨b, rfl⟩ : ∃ n : Nat, b = n := ⟨b.toNat, by omega⟩
    obtain ⟨g, rfl⟩ : ∃ n : Nat, g = n := ⟨g.toNat, by omega⟩
    simp only [Int.toNat_natCast]
    split
    · exact zI_up hI (by omega)
    · split
      · exact zI_up hI (by omega)
      · split
        · exact zI_up hI (by omega)
        · rename_i q2 q3 q4
          have hb : b < zn S 0 := by omega
          have hg : g < zn S 2 := by omega
          have hzb := zI_b hI hh hb
          have hzg := zI_g hI hh (g := g) (by omega)
          have hw := hI.2.2.2.2.1 g (by omega)
          have hc := hI.2.2.1 b (by omega)
          have hk := ztk_r hI hh hb
          have hat := zat_r hI b
          unfold zIg at hw
          unfold zIc at hc
          have p0 := zpS_I hI hh hg hb (by omega)
          have pn := zpS_n hI hg hb
          have eG : ∀ k, k ≠ 1 → k < 5 → zG (zpS S g b) g k = zG S g k := fun k hk hk2 => zpS_o (by omega) (by omega) (by omega)
          have e6 : zB (zpS S g b) b 6 = zB S b 6 := zpS_o (by omega) (by omega) (by omega)
          have e4 : zpS S g b 4 = S 4 := zpS_o (by omega) (by omega) (by omega)
          show zInv (zcS S g b) (h + 1)
          unfold zcS
          generalize zpS S g b = P at p0 pn eG e6 e4 ⊢
          have p1 := zV_land p0 (Nat.le_refl _) (g := g) (by omega) (v := zB S b 0 + zB S b 1 - zG S g 0) ⟨by omega, by omega⟩
          have p2 := zV_walked p1 (Nat.le_refl _) (g := g) (by rw [zn_up (by omega)]; omega) (v := zG S g 3 + ztk S b) ⟨by omega, by omega⟩
          generalize hP2 : zup (zup P (150 + 5 * g + 0) (zB S b 0 + zB S b 1 - zG S g 0)) (150 + 5 * g + 3) (zG S g 3 + ztk S b) = P2 at p2 ⊢
          have n2 : zn P2 0 = zn S 0 ∧ zn P2 2 = zn S 2 := by rw [← hP2, zn_up (by omega), zn_up (by omega), zn_up (by omega), zn_up (by omega)]; exact ⟨by omega, by omega⟩
          have g4 : zG P2 g 4 = zG S g 4 := by
            rw [← hP2, ← eG 4 (by omega) (by omega)]
            unfold zG
            rw [zup_ne _ _ (by omega), zup_ne _ _ (by omega)]
          have s4 : P2 4 = S 4 := by rw [← hP2, zup_ne _ _ (by omega), zup_ne _ _ (by omega), e4]
          have ec : zup (zup (zup P2 (150 + 5 * g + 4) (zG S g 4 + 1)) (6 + 12 * b + 6) (zB S b 6 + 1)) 4 (S 4 + 1) = zup (zup (zup P2 (6 + 12 * b + 6) (zB S b 6 + 1)) (150 + 5 * g + 4) (zG P2 g 4 + 1)) 4 (P2 4 + 1) := by
            rw [zup_comm (i := 150 + 5 * g + 4) (j := 6 + 12 * b + 6) _ _ (by omega), g4, s4]
          rw [ec]
          have p3 := zV_crossed p2 (Nat.le_refl _) (b := b) (by omega) (v := zB S b 6 + 1) ⟨by omega, by omega⟩
          have g5 : zG (zup P2 (6 + 12 * b + 6) (zB S b 6 + 1)) g 4 = zG P2 g 4 := zup_ne _ _ (by omega)
          have s5 : zup P2 (6 + 12 * b + 6) (zB S b 6 + 1) 4 = P2 4 := zup_ne _ _ (by omega)
          have p4 := zV_crossings p3 (Nat.le_refl _) (g := g) (by rw [zn_up (by omega)]; omega) (by omega)
          rw [g5, s5] at p4
          exact p4
theorem zIv_bridge {S : zR} {h : Nat} (hI : zInv S h) (o p q r : Int) : zInv (zo_bridge S o p q r).2.2.2 (h + 1) := by
  have hn := zn_le hI
  have hz := zn_eq hI
  unfold zo_bridge
  split
  · exact zI_up hI (by omega)
  · split
    · exact zI_up hI (by omega)
    · split
      · exact zI_up hI (by omega)
      · split
        · exact zI_up hI (by omega)
        · rename_i q1 q2 q3 q4
          show zInv (zbS S o p q r) (h + 1)
          have eo : ∀ b k, b ≠ zn S 0 → k < 12 → zB (zbS S o p q r) b k = zB S b k := fun b k h1 h2 => zbS_o (by omega) (by omega)
          have eT : ∀ t k, t < 6 → k < 4 → zT (zbS S o p q r) t k = zT S t k := fun t k h1 h2 => zbS_o (by omega) (by omega)
          have eG : ∀ g k, g < 5 → k < 5 → zG (zbS S o p q r) g k = zG S g k := fun g k h1 h2 => zbS_o (by omega) (by omega)
          have e0 : zbS S o p q r 0 = S 0 + 1 := zup_eq _ _ _
          have ei : ∀ i, 0 < i → i < 6 → zbS S o p q r i = S i := fun i h1 h2 => zbS_o (by omega) (by omega)
          have n0 : zn (zbS S o p q r) 0 = zn S 0 + 1 := by unfold zn at *; rw [e0]; omega
          have n1 : zn (zbS S o p q r) 1 = zn S 1 := by unfold zn; rw [ei 1 (by omega) (by omega)]
          have n2 : zn (zbS S o p q r) 2 = zn S 2 := by unfold zn; rw [ei 2 (by omega) (by omega)]
          have hat : ∀ b, zat (zbS S o p q r) b = zat S b := fun b => zat_ext (S := S) (T := zbS S o p q r) n1 (fun t ht => eT t 0 (by omega) (by omega)) b
          have hI' := hI
          obtain ⟨h1, hb, hc, ht, hg, hnn, hd, h4⟩ := hI
          have hzc := (hc (zn S 0) (by omega)).2.2.2.2.2.2 (Nat.le_refl _)
          refine ⟨?_, fun b hb2 => ?_, fun b hb2 => ?_, fun t ht2 => ?_, fun g hg2 => ?_, fun t ht2 => ?_, fun t u ht2 hu2 => ?_, ?_⟩
          · rw [e0, ei 1 (by omega) (by omega), ei 2 (by omega) (by omega), ei 3 (by omega) (by omega), ei 5 (by omega) (by omega)]
            omega
          · unfold zIb
            rw [hat, ei 2 (by omega) (by omega)]
            by_cases w : b = zn S 0
            · subst w
              rw [zbS_n (by omega), zbS_n (by omega), zbS_n (by omega), zbS_n (by omega), zbS_n (by omega)]
              simp only [if_true, if_false]
              refine ⟨?_, ?_, ?_⟩ <;> simp <;> omega
            · have := hb b (by omega)
              unfold zIb at this
              rw [eo b 0 w (by omega), eo b 1 w (by omega), eo b 2 w (by omega), eo b 3 w (by omega), eo b 5 w (by omega)]
              exact this
          · have hcb := hc b hb2
            unfold zIc at hcb ⊢
            rw [n0, n2]
            by_cases w : b = zn S 0
            · subst w
              have e7 : ∀ g, g < 5 → zB (zbS S o p q r) (zn S 0) (7 + g) = 0 := fun g hg2 => by
                rw [zbS_n (by omega), if_neg (by omega), if_neg (by omega), if_neg (by omega), if_neg (by omega), if_neg (by omega)]
              rw [show zB (zbS S o p q r) (zn S 0) 4 = 0 from (zbS_n (by omega)).trans rfl, show zB (zbS S o p q r) (zn S 0) 6 = 0 from (zbS_n (by omega)).trans rfl]
              exact ⟨by omega, by omega, by omega, by omega, fun g hg2 => by rw [e7 g hg2]; exact Int.le_refl _, fun g hg2 _ => e7 g hg2, fun w => absurd w (by omega)⟩
            · rw [eo b 4 w (by omega), eo b 6 w (by omega)]
              refine ⟨hcb.1, by omega, hcb.2.2.1, by omega, fun g hg2 => by rw [eo b _ w (by omega)]; exact hcb.2.2.2.2.1 g hg2, fun g hg2 hg3 => by rw [eo b _ w (by omega)]; exact hcb.2.2.2.2.2.1 g hg2 hg3, fun w2 => ?_⟩
              have := hcb.2.2.2.2.2.2 (by omega)
              exact ⟨this.1, this.2.1, fun g hg2 => by rw [eo b _ w (by omega)]; exact this.2.2 g hg2⟩
          · have := ht t ht2
            unfold zIt at this ⊢
            rw [eT t 0 ht2 (by omega), eT t 1 ht2 (by omega), eT t 2 ht2 (by omega), eT t 3 ht2 (by omega)]
            omega
          · refine zIg_ext (S := S) (h := h) (by omega) (ei 2 (by omega) (by omega)) (fun k hk => eG g k hg2 hk) (fun b hb2 => ?_) (hg g hg2)
            by_cases w : b = zn S 0
            · subst w
              rw [zbS_n (by omega), if_neg (by omega), if_neg (by omega), if_neg (by omega), if_neg (by omega), if_neg (by omega)]
              exact (hzc.2.2 g hg2).symm
            · exact eo b _ w (by omega)
          · rw [n1] at ht2
            rw [eT t 0 (by omega) (by omega), e0]
            have := hnn t ht2
            omega
          · rw [n1] at ht2 hu2
            rw [eT t 0 (by omega) (by omega), eT u 0 (by omega) (by omega)]
            exact hd t u ht2 hu2
          · rw [ei 4 (by omega) (by omega), h4]
            exact zs_ext (fun g hg2 => (eG g 4 hg2 (by omega)).symm)
theorem zIv_troll {S : zR} {h : Nat} (hI : zInv S h) : zInv (zo_troll S).2.2.2 (h + 1) := by
  have hn := zn_le hI
  have hz := zn_eq hI
  unfold zo_troll
  split
  · exact zI_up hI (by omega)
  · rename_i q1
    show zInv (zup (zup S (126 + 4 * zn S 1 + 0) (-1)) 1 (S 1 + 1)) (h + 1)
    generalize hX : zup (zup S (126 + 4 * zn S 1 + 0) (-1)) 1 (S 1 + 1) = X
    have ne : ∀ j, j ≠ 1 → j ≠ 126 + 4 * zn S 1 + 0 → X j = S j := fun j h1 h2 => by rw [← hX, zup_ne _ _ h1, zup_ne _ _ h2]
    have eB : ∀ b k, b < 10 → k < 12 → zB X b k = zB S b k := fun b k h1 h2 => ne _ (by omega) (by omega)
    have eG : ∀ g k, g < 5 → k < 5 → zG X g k = zG S g k := fun g k h1 h2 => ne _ (by omega) (by omega)
    have eT : ∀ t k, t < 6 → k < 4 → ¬ (t = zn S 1 ∧ k = 0) → zT X t k = zT S t k := fun t k h1 h2 h3 => ne _ (by omega) (by omega)
    have e1 : X 1 = S 1 + 1 := by rw [← hX, zup_eq]
    have eN : zT X (zn S 1) 0 = -1 := by unfold zT; rw [← hX, zup_ne _ _ (by omega), zup_eq]
    have n0 : zn X 0 = zn S 0 := by unfold zn; rw [ne 0 (by omega) (by omega)]
    have n1 : zn X 1 = zn S 1 + 1 := by unfold zn at *; rw [e1]; omega
    have n2 : zn X 2 = zn S 2 := by unfold zn; rw [ne 2 (by omega) (by omega)]
    have hat : ∀ b : Nat, zat X b = zat S b := fun b => by
      unfold zat
      rw [n1]
      have e2 : zf (zn S 1) (fun t => decide (zT X t 0 = b)) = zf (zn S 1) (fun t => decide (zT S t 0 = b)) := zf_ext (fun i hi => by rw [eT i 0 (by omega) (by omega) (by omega)])
      show (if 0 ≤ zf (zn S 1) _ then zf (zn S 1) _ else if decide (zT X (zn S 1) 0 = b) = true then _ else _) = _
      rw [e2, eN]
      split
      · rfl
      · rename_i q
        rw [if_neg (by rw [decide_eq_true_eq]; omega)]
        have := (zf_lt (fun t => decide (zT S t 0 = b)) (zn S 1)).1
        omega
    obtain ⟨h1, hb, hc, ht, hg, hnn, hd, h4⟩ := hI
    refine ⟨?_, fun b hb2 => ?_, fun b hb2 => ?_, fun t ht2 => ?_, fun g hg2 => ?_, fun t ht2 => ?_, fun t u ht2 hu2 => ?_, ?_⟩
    · rw [e1, ne 0 (by omega) (by omega), ne 2 (by omega) (by omega), ne 3 (by omega) (by omega), ne 5 (by omega) (by omega)]
      omega
    · rw [n0] at hb2
      have := hb b hb2
      unfold zIb at this ⊢
      rw [hat, ne 2 (by omega) (by omega), eB b 0 (by omega) (by omega), eB b 1 (by omega) (by omega), eB b 2 (by omega) (by omega), eB b 3 (by omega) (by omega), eB b 5 (by omega) (by omega)]
      exact this
    · have hcb := hc b hb2
      unfold zIc at hcb ⊢
      rw [n0, n2, eB b 4 hb2 (by omega), eB b 6 hb2 (by omega)]
      refine ⟨hcb.1, by omega, hcb.2.2.1, by omega, fun g hg2 => by rw [eB b _ hb2 (by omega)]; exact hcb.2.2.2.2.1 g hg2, fun g hg2 hg3 => by rw [eB b _ hb2 (by omega)]; exact hcb.2.2.2.2.2.1 g hg2 hg3, fun w2 => ?_⟩
      have := hcb.2.2.2.2.2.2 w2
      exact ⟨this.1, this.2.1, fun g hg2 => by rw [eB b _ hb2 (by omega)]; exact this.2.2 g hg2⟩
    · have := ht t ht2
      unfold zIt at this ⊢
      rw [eT t 1 ht2 (by omega) (by omega), eT t 2 ht2 (by omega) (by omega), eT t 3 ht2 (by omega) (by omega)]
      by_cases w : t = zn S 1
      · rw [w] at this ⊢
        rw [eN]; omega
      · rw [eT t 0 ht2 (by omega) (by omega)]; omega
    · exact zIg_ext (S := S) (h := h) (by omega) (ne 2 (by omega) (by omega)) (fun k hk => eG g k hg2 hk) (fun b hb2 => eB b _ hb2 (by omega)) (hg g hg2)
    · rw [n1] at ht2
      rw [ne 0 (by omega) (by omega)]
      by_cases w : t = zn S 1
      · rw [w, eN]; omega
      · rw [eT t 0 (by omega) (by omega) (by omega)]; exact hnn t (by omega)
    · rw [n1] at ht2 hu2
      intro q
      by_cases w : t = zn S 1
      · left; rw [w, eN]
      · by_cases w2 : u = zn S 1
        · left; rw [q, w2, eN]
        · rw [eT t 0 (by omega) (by omega) (by omega), eT u 0 (by omega) (by omega) (by omega)] at q
          rw [eT t 0 (by omega) (by omega) (by omega)]
          exact hd t u (by omega) (by omega) q
    · rw [ne 4 (by omega) (by omega), h4]
      exact zs_ext (fun g hg2 => (eG g 4 hg2 (by omega)).symm)
theorem zIv_goat {S : zR} {h : Nat} (hI : zInv S h) (l c : Int) : zInv (zo_goat S l c).2.2.2 (h + 1) := by
  have hn := zn_le hI
  have hz := zn_eq hI
  unfold zo_goat
  split
  · exact zI_up hI (by omega)
  · split
    · exact zI_up hI (by omega)
    · split
      · exact zI_up hI (by omega)
      · rename_i q1 q2 q3
        show zInv (zup (zup (zup (zup S (150 + 5 * zn S 2 + 0) l) (150 + 5 * zn S 2 + 1) c) 2 (S 2 + 1)) 5 (S 5 + c)) (h + 1)
        generalize hX : zup (zup (zup (zup S (150 + 5 * zn S 2 + 0) l) (150 + 5 * zn S 2 + 1) c) 2 (S 2 + 1)) 5 (S 5 + c) = X
        have ne : ∀ j, j ≠ 2 → j ≠ 5 → j ≠ 150 + 5 * zn S 2 + 0 → j ≠ 150 + 5 * zn S 2 + 1 → X j = S j := fun j h1 h2 h3 h4 => by rw [← hX, zup_ne _ _ h2, zup_ne _ _ h1, zup_ne _ _ h4, zup_ne _ _ h3]
        have eB : ∀ b k, b < 10 → k < 12 → zB X b k = zB S b k := fun b k h1 h2 => ne _ (by omega) (by omega) (by omega) (by omega)
        have eT : ∀ t k, t < 6 → k < 4 → zT X t k = zT S t k := fun t k h1 h2 => ne _ (by omega) (by omega) (by omega) (by omega)
        have eG : ∀ g k, g < 5 → k < 5 → ¬ (g = zn S 2 ∧ k < 2) → zG X g k = zG S g k := fun g k h1 h2 h3 => ne _ (by omega) (by omega) (by omega) (by omega)
        have e2 : X 2 = S 2 + 1 := by rw [← hX, zup_ne _ _ (by omega), zup_eq]
        have e5 : X 5 = S 5 + c := by rw [← hX, zup_eq]
        have eL : zG X (zn S 2) 0 = l := by unfold zG; rw [← hX, zup_ne _ _ (by omega), zup_ne _ _ (by omega), zup_ne _ _ (by omega), zup_eq]
        have eC : zG X (zn S 2) 1 = c := by unfold zG; rw [← hX, zup_ne _ _ (by omega), zup_ne _ _ (by omega), zup_eq]
        have n0 : zn X 0 = zn S 0 := by unfold zn; rw [ne 0 (by omega) (by omega) (by omega) (by omega)]
        have n1 : zn X 1 = zn S 1 := by unfold zn; rw [ne 1 (by omega) (by omega) (by omega) (by omega)]
        have n2 : zn X 2 = zn S 2 + 1 := by unfold zn at *; rw [e2]; omega
        have hat : ∀ b : Nat, zat X b = zat S b := fun b => zat_ext (S := S) (T := X) n1 (fun t ht => eT t 0 (by omega) (by omega)) b
        obtain ⟨h1, hb, hc, ht, hg, hnn, hd, h4⟩ := hI
        refine ⟨?_, fun b hb2 => ?_, fun b hb2 => ?_, fun t ht2 => ?_, fun g hg2 => ?_, fun t ht2 => ?_, fun t u ht2 hu2 => ?_, ?_⟩
        · rw [e2, e5, ne 0 (by omega) (by omega) (by omega) (by omega), ne 1 (by omega) (by omega) (by omega) (by omega), ne 3 (by omega) (by omega) (by omega) (by omega)]
          omega
        · rw [n0] at hb2
          have := hb b hb2
          unfold zIb at this ⊢
          rw [hat, e2, eB b 0 (by omega) (by omega), eB b 1 (by omega) (by omega), eB b 2 (by omega) (by omega), eB b 3 (by omega) (by omega), eB b 5 (by omega) (by omega)]
          exact ⟨this.1, this.2.1, this.2.2.1, by omega, this.2.2.2.2⟩
        · have hcb := hc b hb2
          unfold zIc at hcb ⊢
          rw [n0, n2, eB b 4 hb2 (by omega), eB b 6 hb2 (by omega)]
          refine ⟨hcb.1, by omega, hcb.2.2.1, by omega, fun g hg2 => by rw [eB b _ hb2 (by omega)]; exact hcb.2.2.2.2.1 g hg2, fun g hg2 hg3 => by rw [eB b _ hb2 (by omega)]; exact hcb.2.2.2.2.2.1 g hg2 (by omega), fun w2 => ?_⟩
          have := hcb.2.2.2.2.2.2 w2
          exact ⟨this.1, this.2.1, fun g hg2 => by rw [eB b _ hb2 (by omega)]; exact this.2.2 g hg2⟩
        · have := ht t ht2
          unfold zIt at this ⊢
          rw [eT t 0 ht2 (by omega), eT t 1 ht2 (by omega), eT t 2 ht2 (by omega), eT t 3 ht2 (by omega)]
          omega
        · have hw := hg g hg2
          have es : zs 10 (fun b => zB X b (7 + g)) = zs 10 (fun b => zB S b (7 + g)) := zs_ext (fun b hb2 => eB b _ hb2 (by omega))
          unfold zIg at hw ⊢
          rw [es, n2, eG g 2 hg2 (by omega) (by omega), eG g 3 hg2 (by omega) (by omega), eG g 4 hg2 (by omega) (by omega)]
          by_cases w : g = zn S 2
          · subst w
            have e0 : zs 10 (fun b => zB S b (7 + zn S 2)) = 0 := by
              rw [zs_ext (n := 10) (g := fun _ => 0) (fun b hb2 => (hc b hb2).2.2.2.2.2.1 (zn S 2) hg2 (Nat.le_refl _))]
              rfl
            rw [eL, eC, e0]
            refine ⟨by omega, by omega, by omega, by omega, hw.2.2.2.2.1, hw.2.2.2.2.2.1, by omega, by omega, by omega, by omega, fun w => absurd w (by omega)⟩
          · rw [eG g 0 hg2 (by omega) (by omega), eG g 1 hg2 (by omega) (by omega)]
            refine ⟨hw.1, hw.2.1, hw.2.2.1, hw.2.2.2.1, hw.2.2.2.2.1, hw.2.2.2.2.2.1, by omega, by omega, by omega, by omega, fun w2 => ?_⟩
            have := hw.2.2.2.2.2.2.2.2.2.2 (by omega)
            exact this
        · rw [n1] at ht2
          rw [eT t 0 (by omega) (by omega), ne 0 (by omega) (by omega) (by omega) (by omega)]
          exact hnn t ht2
        · rw [n1] at ht2 hu2
          rw [eT t 0 (by omega) (by omega), eT u 0 (by omega) (by omega)]
          exact hd t u ht2 hu2
        · rw [ne 4 (by omega) (by omega) (by omega) (by omega), h4]
          exact zs_ext (fun g hg2 => (eG g 4 hg2 (by omega) (by omega)).symm)
theorem zsl_I {T : zR} {h : Nat} (hI : zInv T h) {b : Nat} (hb : b < zn T 0) {f : Int} : ∀ k, k ≤ zn T 2 → zInv (zsl T b f k) h
  | 0, _ => hI
  | k + 1, hk => by
    have hn := zn_le hI
    have ih := zsl_I hI hb (f := f) k (by omega)
    have hw := hI.2.2.2.2.1 k (by omega)
    have hp := (hI.2.2.1 b (by omega)).2.2.2.2.1 k (by omega)
    unfold zIg at hw
    have e1 : zG (zsl T b f k) k 1 = zG T k 1 := zsl_o T b f _ _ (fun g hg => by omega)
    have e2 : zB (zsl T b f k) b (7 + k) = zB T b (7 + k) := zsl_o T b f _ _ (fun g hg => by omega)
    have e3 : zs 10 (fun c => zB (zsl T b f k) c (7 + k)) = zs 10 (fun c => zB T c (7 + k)) := zs_ext (fun c hc => zsl_o T b f _ _ (fun g hg => by omega))
    have n0 : zn (zsl T b f k) 0 = zn T 0 := by unfold zn; rw [zsl_o T b f _ _ (fun g hg => by omega)]
    have n2 : zn (zsl T b f k) 2 = zn T 2 := by unfold zn; rw [zsl_o T b f _ _ (fun g hg => by omega)]
    show zInv (zup (zup (zsl T b f k) (150 + 5 * k + 1) (zG T k 1 + (if f = 1 then 0 else zB T b (7 + k)))) (6 + 12 * b + (7 + k)) 0) h
    generalize zsl T b f k = Y at ih e1 e2 e3 n0 n2 ⊢
    rw [zup_comm _ _ (by omega)]
    have k1 := zV_paid ih (Nat.le_refl h) (b := b) (g := k) (by omega) (by omega) (v := 0) ⟨by omega, by rw [e1, e2, e3]; omega⟩
    have q := zs_upd (n := 10) (f := fun c => zB Y c (7 + k)) (g := fun c => zB (zup Y (6 + 12 * b + (7 + k)) 0) c (7 + k)) b (by omega) (fun c hc hne => zup_ne _ _ (by omega))
    have e4 : zB (zup Y (6 + 12 * b + (7 + k)) 0) b (7 + k) = 0 := zup_eq _ _ _
    rw [e4] at q
    refine zV_purse k1 (Nat.le_refl h) (g := k) (by rw [zn_up (by omega)]; omega) ⟨by split <;> omega, ?_⟩
    rw [q, e3, e2]
    split <;> omega
theorem zIv_settle {S : zR} {h : Nat} (hI : zInv S h) (hh : h ≤ 10000) (b f : Int) : zInv (zo_settle S b f).2.2.2 (h + 1) := by
  have hn := zn_le hI
  unfold zo_settle
  split
  · exact zI_up hI (by omega)
  · rename_i q1
    obtain ⟨b, rfl⟩ : ∃ n : Nat, b = n := ⟨b.toNat, by omega⟩
    simp only [Int.toNat_natCast]
    split
    · exact zI_up hI (by omega)
    · rename_i q2
      show zInv (zsS S b f) (h + 1)
      have hb : b < zn S 0 := by omega
      have hc5 := zch_5 hI (b := b) (by omega)
      have hcr := zch_r hI hh (b := b) (by omega)
      have hzb := (hI.2.1 b hb).2.2.2.2 (by omega)
      have hat := zat_is hzb
      have hT : zInv (zsT S b f) (h + 1) := by
        unfold zsT
        split
        · have ht := hI.2.2.2.1 (zat S b).toNat (by omega)
          unfold zIt at ht
          exact zV_coins hI (by omega) (by omega) ⟨by omega, by omega⟩
        · exact zI_up hI (by omega)
      have ho : ∀ i, i < 3 → zsT S b f i = S i := fun i hi => by
        unfold zsT
        split
        · exact zup_ne _ _ (by omega)
        · rfl
      have n0 : zn (zsT S b f) 0 = zn S 0 := by unfold zn; rw [ho 0 (by omega)]
      have n2 : zn (zsT S b f) 2 = zn S 2 := by unfold zn; rw [ho 2 (by omega)]
      have e5 : zsl (zsT S b f) b f 5 = zsl (zsT S b f) b f (zn (zsT S b f) 2) := zsl_5 (by omega) (fun g0 hg0 hg1 => (hT.2.2.1 b (by omega)).2.2.2.2.2.1 g0 hg0 hg1) (by omega)
      have k1 := zsl_I hT (b := b) (by omega) (f := f) _ (Nat.le_refl _)
      unfold zsS
      rw [e5]
      have hz2 := (zn_eq hT).2.2
      have e2 : zsl (zsT S b f) b f (zn (zsT S b f) 2) 2 = zsT S b f 2 := zsl_o _ _ _ _ _ (fun g hg => by omega)
      refine zV_disp k1 (Nat.le_refl _) (by unfold zn; rw [zsl_o _ _ _ _ _ (fun g hg => by omega)]; unfold zn at n0 hb; omega) ⟨by omega, by rw [e2]; omega, by omega⟩

