/-! COINS AND CROSSINGS: sums that every command keeps -/
def zPu (S : zR) : Int := zs 5 (fun g => zG S g 1)
def zEa (S : zR) : Int := zs 6 (fun t => zT S t 1)
def zPd (S : zR) : Int := zs 10 (fun b => zs5 S b)
def zCr (S : zR) : Int := zs 10 (fun b => zB S b 6)
def zM (S : zR) : Prop := S 5 = zPu S + zEa S + zPd S ∧ zCr S = S 4 ∧ (∀ b, b < 10 → zB S b 5 < 0 → ∀ g, g < 5 → zB S b (7 + g) = 0) ∧ (∀ t, t < 6 → zn S 1 ≤ t → zT S t 1 = 0)
theorem zPu_o {S : zR} {i : Nat} {v : Int} (h : ∀ g, g < 5 → i ≠ 150 + 5 * g + 1) : zPu (zup S i v) = zPu S := zs_ext (fun g hg => zup_ne _ _ (by have := h g hg; omega))
theorem zEa_o {S : zR} {i : Nat} {v : Int} (h : ∀ t, t < 6 → i ≠ 126 + 4 * t + 1) : zEa (zup S i v) = zEa S := zs_ext (fun t ht => zup_ne _ _ (by have := h t ht; omega))
theorem zPd_o {S : zR} {i : Nat} {v : Int} (h : ∀ b g, b < 10 → g < 5 → i ≠ 6 + 12 * b + (7 + g)) : zPd (zup S i v) = zPd S := zs_ext (fun b hb => zs_ext (fun g hg => zup_ne _ _ (by have := h b g hb hg; omega)))
theorem zCr_o {S : zR} {i : Nat} {v : Int} (h : ∀ b, b < 10 → i ≠ 6 + 12 * b + 6) : zCr (zup S i v) = zCr S := zs_ext (fun b hb => zup_ne _ _ (by have := h b hb; omega))
theorem zPu_u {S : zR} {g : Nat} {v : Int} (hg : g < 5) : zPu (zup S (150 + 5 * g + 1) v) = zPu S + (v - zG S g 1) := by
  unfold zPu
  rw [zs_upd (f := fun g => zG S g 1) (g := fun j => zG (zup S (150 + 5 * g + 1) v) j 1) g hg (fun j hj hne => zup_ne _ _ (by omega))]
  show _ + (zup S (150 + 5 * g + 1) v (150 + 5 * g + 1) - _) = _
  rw [zup_eq]
theorem zEa_u {S : zR} {t : Nat} {v : Int} (ht : t < 6) : zEa (zup S (126 + 4 * t + 1) v) = zEa S + (v - zT S t 1) := by
  unfold zEa
  rw [zs_upd (f := fun t => zT S t 1) (g := fun j => zT (zup S (126 + 4 * t + 1) v) j 1) t ht (fun j hj hne => zup_ne _ _ (by omega))]
  show _ + (zup S (126 + 4 * t + 1) v (126 + 4 * t + 1) - _) = _
  rw [zup_eq]
theorem zCr_u {S : zR} {b : Nat} {v : Int} (hb : b < 10) : zCr (zup S (6 + 12 * b + 6) v) = zCr S + (v - zB S b 6) := by
  unfold zCr
  rw [zs_upd (f := fun b => zB S b 6) (g := fun j => zB (zup S (6 + 12 * b + 6) v) j 6) b hb (fun j hj hne => zup_ne _ _ (by omega))]
  show _ + (zup S (6 + 12 * b + 6) v (6 + 12 * b + 6) - _) = _
  rw [zup_eq]
theorem zs5_u {S : zR} {b g : Nat} {v : Int} (hg : g < 5) : zs5 (zup S (6 + 12 * b + (7 + g)) v) b = zs5 S b + (v - zB S b (7 + g)) := by
  unfold zs5
  rw [zs_upd (f := fun g => zB S b (7 + g)) (g := fun j => zB (zup S (6 + 12 * b + (7 + g)) v) b (7 + j)) g hg (fun j hj hne => zup_ne _ _ (by omega))]
  show _ + (zup S (6 + 12 * b + (7 + g)) v (6 + 12 * b + (7 + g)) - _) = _
  rw [zup_eq]
theorem zPd_u {S : zR} {b g : Nat} {v : Int} (hb : b < 10) (hg : g < 5) : zPd (zup S (6 + 12 * b + (7 + g)) v) = zPd S + (v - zB S b (7 + g)) := by
  unfold zPd
  rw [zs_upd (f := fun b => zs5 S b) (g := fun j => zs5 (zup S (6 + 12 * b + (7 + g)) v) j) b hb (fun j hj hne => zs_ext (fun k hk => zup_ne _ _ (by omega))), zs5_u hg]
  omega
/-- places that don't speak of coins, crossings, disputes, how many trolls -/
def zMi (i : Nat) : Prop := i ≠ 1 ∧ i ≠ 4 ∧ i ≠ 5 ∧ (6 ≤ i → i < 126 → (i - 6) % 12 < 5) ∧ (126 ≤ i → i < 150 → (i - 126) % 4 ≠ 1) ∧ (150 ≤ i → (i - 150) % 5 ≠ 1)
theorem zM_u {S : zR} {i : Nat} {v : Int} (hM : zM S) (h : zMi i) : zM (zup S i v) := by
  obtain ⟨h1, h2, h3, h4⟩ := hM
  obtain ⟨i1, i2, i3, i4, i5, i6⟩ := h
  refine ⟨?_, ?_, fun b hb hd g hg => ?_, fun t ht hn => ?_⟩
  · rw [zPu_o (fun g hg => by omega), zEa_o (fun t ht => by omega), zPd_o (fun b g hb hg => by omega), zup_ne _ _ (by omega)]
    exact h1
  · rw [zCr_o (fun b hb => by omega), zup_ne _ _ (by omega)]
    exact h2
  · have e1 : zB (zup S i v) b 5 = zB S b 5 := zup_ne _ _ (by omega)
    have e2 : zB (zup S i v) b (7 + g) = zB S b (7 + g) := zup_ne _ _ (by omega)
    rw [e2]
    rw [e1] at hd
    exact h3 b hb hd g hg
  · have e1 : zT (zup S i v) t 1 = zT S t 1 := zup_ne _ _ (by omega)
    rw [e1]
    rw [zn_up (by omega)] at hn
    exact h4 t ht hn
theorem zM_post {S : zR} {h : Nat} (hI : zInv S h) (hM : zM S) (t b : Int) : zM (zo_post S t b).2.2.2 := by
  have hn := zn_le hI
  have hz := zn_eq hI
  unfold zo_post
  split
  · exact hM
  repeat (first | exact hM | split)
  exact zM_u hM (by unfold zMi; omega)
theorem zM_leave {S : zR} {h : Nat} (hI : zInv S h) (hM : zM S) (t : Int) : zM (zo_leave S t).2.2.2 := by
  have hn := zn_le hI
  have hz := zn_eq hI
  unfold zo_leave
  split
  · exact hM
  repeat (first | exact hM | split)
  exact zM_u hM (by unfold zMi; omega)
theorem zM_riddle {S : zR} {h : Nat} (hI : zInv S h) (hM : zM S) (t d n : Int) : zM (zo_riddle S t d n).2.2.2 := by
  have hn := zn_le hI
  have hz := zn_eq hI
  unfold zo_riddle
  split
  · exact hM
  repeat (first | exact hM | split)
  exact zM_u (zM_u hM (by unfold zMi; omega)) (by unfold zMi; omega)
theorem zM_fog {S : zR} {h : Nat} (hI : zInv S h) (hM : zM S) (b n : Int) : zM (zo_fog S b n).2.2.2 := by
  have hn := zn_le hI
  have hz := zn_eq hI
  unfold zo_fog
  split
  · exact hM
  repeat (first | exact hM | split)
  exact zM_u hM (by unfold zMi; omega)
theorem zM_price {S : zR} {h : Nat} (hI : zInv S h) (hM : zM S) (b r : Int) : zM (zo_price S b r).2.2.2 := by
  have hn := zn_le hI
  have hz := zn_eq hI
  unfold zo_price
  split
  · exact hM
  repeat (first | exact hM | split)
  exact zM_u hM (by unfold zMi; omega)
theorem zM_strike {S : zR} {h : Nat} (hI : zInv S h) (hM : zM S) (g v : Int) : zM (zo_strike S g v).2.2.2 := by
  have hn := zn_le hI
  have hz := zn_eq hI
  unfold zo_strike
  split
  · exact hM
  repeat (first | exact hM | split)
  exact zM_u hM (by unfold zMi; omega)
theorem zM_pass {S : zR} (hM : zM S) (n : Int) : zM (zo_pass S n).2.2.2 := by
  unfold zo_pass
  split
  · exact hM
  · exact zM_u hM (by unfold zMi; omega)
theorem zM_disp {S : zR} (hM : zM S) {b : Nat} {v : Int} (hb : b < 10) (hv : 0 ≤ v) : zM (zup S (6 + 12 * b + 5) v) := by
  obtain ⟨h1, h2, h3, h4⟩ := hM
  refine ⟨?_, ?_, fun c hc hd g hg => ?_, fun t ht hn => ?_⟩
  · rw [zPu_o (fun g hg => by omega), zEa_o (fun t ht => by omega), zPd_o (fun b g hb hg => by omega), zup_ne _ _ (by omega)]
    exact h1
  · rw [zCr_o (fun b hb => by omega), zup_ne _ _ (by omega)]
    exact h2
  · have e2 : zB (zup S (6 + 12 * b + 5) v) c (7 + g) = zB S c (7 + g) := zup_ne _ _ (by omega)
    rw [e2]
    by_cases q : c = b
    · subst q
      have : zB (zup S (6 + 12 * c + 5) v) c 5 = v := zup_eq _ _ _
      omega
    · have e1 : zB (zup S (6 + 12 * b + 5) v) c 5 = zB S c 5 := zup_ne _ _ (by omega)
      rw [e1] at hd
      exact h3 c hc hd g hg
  · have e1 : zT (zup S (6 + 12 * b + 5) v) t 1 = zT S t 1 := zup_ne _ _ (by omega)
    rw [e1]
    rw [zn_up (by omega)] at hn
    exact h4 t ht hn
theorem zM_dispute {S : zR} {h : Nat} (hI : zInv S h) (hM : zM S) (g b : Int) : zM (zo_dispute S g b).2.2.2 := by
  have hn := zn_le hI
  have hz := zn_eq hI
  unfold zo_dispute
  split
  · exact hM
  repeat (first | exact hM | split)
  exact zM_disp hM (by omega) (by omega)
theorem zM_troll {S : zR} {h : Nat} (hI : zInv S h) (hM : zM S) (hS : 0 ≤ S 1) : zM (zo_troll S).2.2.2 := by
  have hn := zn_le hI
  unfold zo_troll
  split
  · exact hM
  · have hM1 : zM (zup S (126 + 4 * zn S 1 + 0) (-1)) := zM_u hM (by unfold zMi; omega)
    generalize hX : zup S (126 + 4 * zn S 1 + 0) (-1) = X at hM1
    have hX1 : zn X 1 = zn S 1 := by rw [← hX, zn_up (by omega)]
    obtain ⟨h1, h2, h3, h4⟩ := hM1
    refine ⟨?_, ?_, fun c hc hd g hg => ?_, fun t ht hn => ?_⟩
    · show zup X 1 (S 1 + 1) 5 = _
      rw [zPu_o (fun g hg => by omega), zEa_o (fun t ht => by omega), zPd_o (fun b g hb hg => by omega), zup_ne _ _ (by omega)]
      exact h1
    · show zCr (zup X 1 (S 1 + 1)) = zup X 1 (S 1 + 1) 4
      rw [zCr_o (fun b hb => by omega), zup_ne _ _ (by omega)]
      exact h2
    · have e2 : zB (zup X 1 (S 1 + 1)) c (7 + g) = zB X c (7 + g) := zup_ne _ _ (by omega)
      have e1 : zB (zup X 1 (S 1 + 1)) c 5 = zB X c 5 := zup_ne _ _ (by omega)
      rw [e1] at hd
      rw [e2]
      exact h3 c hc hd g hg
    · have e1 : zT (zup X 1 (S 1 + 1)) t 1 = zT X t 1 := zup_ne _ _ (by omega)
      rw [e1]
      refine h4 t ht ?_
      have e3 : zn (zup X 1 (S 1 + 1)) 1 = (S 1 + 1).toNat := by unfold zn; rw [zup_eq]
      have e4 : zn S 1 = (S 1).toNat := rfl
      rw [e3] at hn
      omega
theorem zM_goat {S : zR} {h : Nat} (hI : zInv S h) (hM : zM S) (l c : Int) : zM (zo_goat S l c).2.2.2 := by
  have hn := zn_le hI
  unfold zo_goat
  split
  · exact hM
  split
  · exact hM
  split
  · exact hM
  rename_i q1 q2 q3
  have hg0 := hI.2.2.2.2.1 (zn S 2) (by omega)
  have hp0 : zG S (zn S 2) 1 = 0 := (hg0.2.2.2.2.2.2.2.2.2.2 (Nat.le_refl _)).1
  show zM (zup (zup (zup (zup S (150 + 5 * zn S 2 + 0) l) (150 + 5 * zn S 2 + 1) c) 2 (S 2 + 1)) 5 (S 5 + c))
  have hM1 : zM (zup S (150 + 5 * zn S 2 + 0) l) := zM_u hM (by unfold zMi; omega)
  have hX5 : zup S (150 + 5 * zn S 2 + 0) l 5 = S 5 := zup_ne _ _ (by omega)
  have hXp : zG (zup S (150 + 5 * zn S 2 + 0) l) (zn S 2) 1 = 0 := by rw [← hp0]; exact zup_ne _ _ (by omega)
  generalize zup S (150 + 5 * zn S 2 + 0) l = X at hM1 hX5 hXp ⊢
  obtain ⟨h1, h2, h3, h4⟩ := hM1
  refine ⟨?_, ?_, fun b hb hd g hg => ?_, fun t ht hn => ?_⟩
  · rw [zPu_o (fun g hg => by omega), zEa_o (fun t ht => by omega), zPd_o (fun b g hb hg => by omega), zup_eq]
    rw [zPu_o (fun g hg => by omega), zEa_o (fun t ht => by omega), zPd_o (fun b g hb hg => by omega)]
    rw [zPu_u (by omega), zEa_o (fun t ht => by omega), zPd_o (fun b g hb hg => by omega), hXp]
    omega
  · rw [zCr_o (fun b hb => by omega), zup_ne _ _ (by omega), zCr_o (fun b hb => by omega), zup_ne _ _ (by omega), zCr_o (fun b hb => by omega), zup_ne _ _ (by omega)]
    exact h2
  · have e2 : zB (zup (zup (zup X (150 + 5 * zn S 2 + 1) c) 2 (S 2 + 1)) 5 (S 5 + c)) b (7 + g) = zB X b (7 + g) := by unfold zB; rw [zup_ne _ _ (by omega), zup_ne _ _ (by omega), zup_ne _ _ (by omega)]
    have e1 : zB (zup (zup (zup X (150 + 5 * zn S 2 + 1) c) 2 (S 2 + 1)) 5 (S 5 + c)) b 5 = zB X b 5 := by unfold zB; rw [zup_ne _ _ (by omega), zup_ne _ _ (by omega), zup_ne _ _ (by omega)]
    rw [e1] at hd
    rw [e2]
    exact h3 b hb hd g hg
  · have e1 : zT (zup (zup (zup X (150 + 5 * zn S 2 + 1) c) 2 (S 2 + 1)) 5 (S 5 + c)) t 1 = zT X t 1 := by unfold zT; rw [zup_ne _ _ (by omega), zup_ne _ _ (by omega), zup_ne _ _ (by omega)]
    rw [e1]
    rw [zn_up (by omega), zn_up (by omega), zn_up (by omega)] at hn
    exact h4 t ht hn
theorem zM_bridge {S : zR} {h : Nat} (hI : zInv S h) (hM : zM S) (o p q r : Int) : zM (zo_bridge S o p q r).2.2.2 := by
  have hn := zn_le hI
  unfold zo_bridge
  split
  · exact hM
  split
  · exact hM
  split
  · exact hM
  split
  · exact hM
  rename_i q1 q2 q3 q4
  show zM (zbS S o p q r)
  have hc := (hI.2.2.1 (zn S 0) (by omega)).2.2.2.2.2.2 (Nat.le_refl _)
  have eo : ∀ j, j ≠ 0 → ¬ (6 + 12 * zn S 0 ≤ j ∧ j < 6 + 12 * zn S 0 + 12) → zbS S o p q r j = S j := fun j h0 hj => zbS_o h0 hj
  have ez : ∀ k, k = 6 ∨ 7 ≤ k → k < 12 → zB (zbS S o p q r) (zn S 0) k = 0 := fun k hk hk2 => by
    unfold zB zbS
    rw [zup_ne _ _ (by omega), zup_ne _ _ (by omega), zup_ne _ _ (by omega), zup_ne _ _ (by omega), zup_ne _ _ (by omega), zup_ne _ _ (by omega)]
    unfold zz
    exact if_pos (by omega)
  have e6 : ∀ b, b < 10 → zB (zbS S o p q r) b 6 = zB S b 6 := fun b hb => by
    by_cases w : b = zn S 0
    · rw [w, ez 6 (by omega) (by omega), hc.2.1]
    · exact eo _ (by omega) (by omega)
  have e7 : ∀ b g, b < 10 → g < 5 → zB (zbS S o p q r) b (7 + g) = zB S b (7 + g) := fun b g hb hg => by
    by_cases w : b = zn S 0
    · rw [w, ez (7 + g) (by omega) (by omega), hc.2.2 g hg]
    · exact eo _ (by omega) (by omega)
  obtain ⟨h1, h2, h3, h4⟩ := hM
  refine ⟨?_, ?_, fun b hb hd g hg => ?_, fun t ht hn => ?_⟩
  · rw [show zPu (zbS S o p q r) = zPu S from zs_ext (fun g hg => eo _ (by omega) (by omega)), show zEa (zbS S o p q r) = zEa S from zs_ext (fun g hg => eo _ (by omega) (by omega)), show zPd (zbS S o p q r) = zPd S from zs_ext (fun b hb => zs_ext (fun g hg => e7 b g hb hg)), eo 5 (by omega) (by omega)]
    exact h1
  · rw [show zCr (zbS S o p q r) = zCr S from zs_ext (fun b hb => e6 b hb), eo 4 (by omega) (by omega)]
    exact h2
  · rw [e7 b g hb hg]
    by_cases w : b = zn S 0
    · rw [w]; exact hc.2.2 g hg
    · have e5 : zB (zbS S o p q r) b 5 = zB S b 5 := eo _ (by omega) (by omega)
      rw [e5] at hd
      exact h3 b hb hd g hg
  · have e1 : zT (zbS S o p q r) t 1 = zT S t 1 := eo _ (by omega) (by omega)
    have e2 : zn (zbS S o p q r) 1 = zn S 1 := by unfold zn; rw [eo 1 (by omega) (by omega)]
    rw [e1]
    rw [e2] at hn
    exact h4 t ht hn
theorem zM_cross {S : zR} {h : Nat} (hI : zInv S h) (hM : zM S) (g b : Int) : zM (zo_cross S g b).2.2.2 := by
  have hn := zn_le hI
  have hz := zn_eq hI
  unfold zo_cross
  split
  · exact hM
  rename_i q1
  obtain ⟨b, rfl⟩ : ∃ n : Nat, b = n := ⟨b.toNat, by omega⟩
  obtain ⟨g, rfl⟩ : ∃ n : Nat, g = n := ⟨g.toNat, by omega⟩
  simp only [Int.toNat_natCast]
  split
  · exact hM
  split
  · exact hM
  split
  · exact hM
  have hat := zat_r hI b
  have hatn := zf_lt (fun t => decide (zT S t 0 = b)) (zn S 1)
  have hP : zM (zpS S g b) ∧ zB (zpS S g b) b 6 = zB S b 6 ∧ zpS S g b 4 = S 4 := by
    obtain ⟨h1, h2, h3, h4⟩ := hM
    unfold zpS
    by_cases w1 : 0 ≤ zB S b 5
    · rw [if_pos w1]
      refine ⟨⟨?_, ?_, fun c hc hd k hk => ?_, fun t ht hn => ?_⟩, ?_, ?_⟩
      · rw [zPu_o (fun g hg => by omega), zEa_o (fun t ht => by omega), zPd_u (by omega) (by omega), zPu_u (by omega), zEa_o (fun t ht => by omega), zPd_o (fun b g hb hg => by omega), zup_ne _ _ (by omega), zup_ne _ _ (by omega)]
        have : zB (zup S (150 + 5 * g + 1) (zG S g 1 - zdue S b)) b (7 + g) = zB S b (7 + g) := zup_ne _ _ (by omega)
        rw [this]
        omega
      · rw [zCr_o (fun b hb => by omega), zCr_o (fun b hb => by omega), zup_ne _ _ (by omega), zup_ne _ _ (by omega)]
        exact h2
      · have e5 : zB (zup (zup S (150 + 5 * g + 1) (zG S g 1 - zdue S b)) (6 + 12 * b + (7 + g)) (zB S b (7 + g) + zdue S b)) c 5 = zB S c 5 := by unfold zB; rw [zup_ne _ _ (by omega), zup_ne _ _ (by omega)]
        rw [e5] at hd
        have hcb : c ≠ b := fun w => by rw [w] at hd; omega
        have e7 : zB (zup (zup S (150 + 5 * g + 1) (zG S g 1 - zdue S b)) (6 + 12 * b + (7 + g)) (zB S b (7 + g) + zdue S b)) c (7 + k) = zB S c (7 + k) := by unfold zB; rw [zup_ne _ _ (by omega), zup_ne _ _ (by omega)]
        rw [e7]
        exact h3 c hc hd k hk
      · have e1 : zT (zup (zup S (150 + 5 * g + 1) (zG S g 1 - zdue S b)) (6 + 12 * b + (7 + g)) (zB S b (7 + g) + zdue S b)) t 1 = zT S t 1 := by unfold zT; rw [zup_ne _ _ (by omega), zup_ne _ _ (by omega)]
        rw [e1]
        rw [zn_up (by omega), zn_up (by omega)] at hn
        exact h4 t ht hn
      · unfold zB; rw [zup_ne _ _ (by omega), zup_ne _ _ (by omega)]
      · rw [zup_ne _ _ (by omega), zup_ne _ _ (by omega)]
    · rw [if_neg w1]
      by_cases w2 : 0 < zdue S b
      · rw [if_pos w2]
        have ha : 0 ≤ zat S b := by
          unfold zdue at w2
          split at w2
          · rename_i w3; exact w3.1
          · omega
        have hal : (zat S b).toNat < zn S 1 := by unfold zat at ha ⊢; omega
        refine ⟨⟨?_, ?_, fun c hc hd k hk => ?_, fun t ht hn => ?_⟩, ?_, ?_⟩
        · rw [zPu_o (fun g hg => by omega), zEa_u (by omega), zPd_o (fun b g hb hg => by omega), zPu_u (by omega), zEa_o (fun t ht => by omega), zPd_o (fun b g hb hg => by omega), zup_ne _ _ (by omega), zup_ne _ _ (by omega)]
          have : zT (zup S (150 + 5 * g + 1) (zG S g 1 - zdue S b)) (zat S b).toNat 1 = zT S (zat S b).toNat 1 := zup_ne _ _ (by omega)
          rw [this]
          omega
        · rw [zCr_o (fun b hb => by omega), zCr_o (fun b hb => by omega), zup_ne _ _ (by omega), zup_ne _ _ (by omega)]
          exact h2
        · have e5 : ∀ k, k < 12 → zB (zup (zup S (150 + 5 * g + 1) (zG S g 1 - zdue S b)) (126 + 4 * (zat S b).toNat + 1) (zT S (zat S b).toNat 1 + zdue S b)) c k = zB S c k := fun k hk => by unfold zB; rw [zup_ne _ _ (by omega), zup_ne _ _ (by omega)]
          rw [e5 5 (by omega)] at hd
          rw [e5 _ (by omega)]
          exact h3 c hc hd k hk
        · rw [zn_up (by omega), zn_up (by omega)] at hn
          have e1 : zT (zup (zup S (150 + 5 * g + 1) (zG S g 1 - zdue S b)) (126 + 4 * (zat S b).toNat + 1) (zT S (zat S b).toNat 1 + zdue S b)) t 1 = zT S t 1 := by unfold zT; rw [zup_ne _ _ (by omega), zup_ne _ _ (by omega)]
          rw [e1]
          exact h4 t ht hn
        · unfold zB; rw [zup_ne _ _ (by omega), zup_ne _ _ (by omega)]
        · rw [zup_ne _ _ (by omega), zup_ne _ _ (by omega)]
      · rw [if_neg w2]
        have hd0 : zdue S b = 0 := by
          unfold zdue at w2 ⊢
          split at w2
          · rename_i w3
            rw [if_pos w3]
            have := zI_b hI
            have h9 := (hI.2.1 b (by omega)).2.1
            omega
          · rename_i w3; rw [if_neg w3]
        have e0 : zup S (150 + 5 * g + 1) (zG S g 1 - zdue S b) = S := zup_self (by rw [hd0]; show zG S g 1 - 0 = zG S g 1; omega)
        rw [e0]
        exact ⟨⟨h1, h2, h3, h4⟩, rfl, rfl⟩
  obtain ⟨hP, e6, e4⟩ := hP
  show zM (zcS S g b)
  unfold zcS
  generalize zpS S g b = P at hP e6 e4 ⊢
  have hP2 : zM (zup (zup (zup P (150 + 5 * g + 0) (zB S b 0 + zB S b 1 - zG S g 0)) (150 + 5 * g + 3) (zG S g 3 + ztk S b)) (150 + 5 * g + 4) (zG S g 4 + 1)) := zM_u (zM_u (zM_u hP (by unfold zMi; omega)) (by unfold zMi; omega)) (by unfold zMi; omega)
  have e62 : zB (zup (zup (zup P (150 + 5 * g + 0) (zB S b 0 + zB S b 1 - zG S g 0)) (150 + 5 * g + 3) (zG S g 3 + ztk S b)) (150 + 5 * g + 4) (zG S g 4 + 1)) b 6 = zB S b 6 := by rw [← e6]; unfold zB; rw [zup_ne _ _ (by omega), zup_ne _ _ (by omega), zup_ne _ _ (by omega)]
  have e42 : zup (zup (zup P (150 + 5 * g + 0) (zB S b 0 + zB S b 1 - zG S g 0)) (150 + 5 * g + 3) (zG S g 3 + ztk S b)) (150 + 5 * g + 4) (zG S g 4 + 1) 4 = S 4 := by rw [← e4, zup_ne _ _ (by omega), zup_ne _ _ (by omega), zup_ne _ _ (by omega)]
  generalize zup (zup (zup P (150 + 5 * g + 0) (zB S b 0 + zB S b 1 - zG S g 0)) (150 + 5 * g + 3) (zG S g 3 + ztk S b)) (150 + 5 * g + 4) (zG S g 4 + 1) = X at hP2 e62 e42 ⊢
  obtain ⟨h1, h2, h3, h4⟩ := hP2
  refine ⟨?_, ?_, fun c hc hd k hk => ?_, fun t ht hn => ?_⟩
  · rw [zPu_o (fun g hg => by omega), zEa_o (fun t ht => by omega), zPd_o (fun b g hb hg => by omega), zPu_o (fun g hg => by omega), zEa_o (fun t ht => by omega), zPd_o (fun b g hb hg => by omega), zup_ne _ _ (by omega), zup_ne _ _ (by omega)]
    exact h1
  · rw [zCr_o (fun b hb => by omega), zCr_u (by omega), zup_eq, e62]
    omega
  · have e5 : ∀ k, k ≠ 6 → k < 12 → zB (zup (zup X (6 + 12 * b + 6) (zB S b 6 + 1)) 4 (S 4 + 1)) c k = zB X c k := fun k h6 hk => by unfold zB; rw [zup_ne _ _ (by omega), zup_ne _ _ (by omega)]
    rw [e5 5 (by omega) (by omega)] at hd
    rw [e5 _ (by omega) (by omega)]
    exact h3 c hc hd k hk
  · rw [zn_up (by omega), zn_up (by omega)] at hn
    have e1 : zT (zup (zup X (6 + 12 * b + 6) (zB S b 6 + 1)) 4 (S 4 + 1)) t 1 = zT X t 1 := by unfold zT; rw [zup_ne _ _ (by omega), zup_ne _ _ (by omega)]
    rw [e1]
    exact h4 t ht hn
theorem zsl_m (T : zR) {b : Nat} (hb : b < 10) (f : Int) : ∀ k, k ≤ 5 → zPu (zsl T b f k) = zPu T + (if f = 1 then 0 else zs k (fun g => zB T b (7 + g))) ∧ zPd (zsl T b f k) = zPd T - zs k (fun g => zB T b (7 + g)) ∧ zEa (zsl T b f k) = zEa T ∧ zCr (zsl T b f k) = zCr T
  | 0, _ => by
    refine ⟨?_, ?_, rfl, rfl⟩
    · show zPu T = zPu T + (if f = 1 then 0 else 0)
      split <;> omega
    · show zPd T = zPd T - 0
      omega
  | k + 1, hk => by
    obtain ⟨h1, h2, h3, h4⟩ := zsl_m T hb f k (by omega)
    have eG : zG (zsl T b f k) k 1 = zG T k 1 := zsl_o T b f k _ (fun g hg => by omega)
    have eB : zB (zup (zsl T b f k) (150 + 5 * k + 1) (zG T k 1 + (if f = 1 then 0 else zB T b (7 + k)))) b (7 + k) = zB T b (7 + k) := by
      unfold zB
      rw [zup_ne _ _ (by omega)]
      exact zsl_o T b f k _ (fun g hg => by omega)
    unfold zsl
    refine ⟨?_, ?_, ?_, ?_⟩
    · rw [zPu_o (fun g hg => by omega), zPu_u (by omega), h1, eG]
      show _ = zPu T + (if f = 1 then 0 else zs k (fun g => zB T b (7 + g)) + zB T b (7 + k))
      split <;> omega
    · rw [zPd_u hb (by omega), zPd_o (fun b g hb hg => by omega), h2, eB]
      show _ = zPd T - (zs k (fun g => zB T b (7 + g)) + zB T b (7 + k))
      omega
    · rw [zEa_o (fun t ht => by omega), zEa_o (fun t ht => by omega), h3]
    · rw [zCr_o (fun b hb => by omega), zCr_o (fun b hb => by omega), h4]
theorem zsl_0 (T : zR) {b : Nat} (hb : b < 10) (f : Int) : ∀ k g, g < k → k ≤ 5 → zB (zsl T b f k) b (7 + g) = 0
  | 0, g, hg, _ => by omega
  | k + 1, g, hg, hk => by
    unfold zsl
    by_cases w : g = k
    · rw [w]; exact zup_eq _ _ _
    · have e : zB (zup (zup (zsl T b f k) (150 + 5 * k + 1) (zG T k 1 + (if f = 1 then 0 else zB T b (7 + k)))) (6 + 12 * b + (7 + k)) 0) b (7 + g) = zB (zsl T b f k) b (7 + g) := by unfold zB; rw [zup_ne _ _ (by omega), zup_ne _ _ (by omega)]
      rw [e]
      exact zsl_0 T hb f k g (by omega) (by omega)
theorem zM_settle {S : zR} {h : Nat} (hI : zInv S h) (hM : zM S) (b f : Int) : zM (zo_settle S b f).2.2.2 := by
  have hn := zn_le hI
  have hz := zn_eq hI
  unfold zo_settle
  split
  · exact hM
  rename_i q1
  obtain ⟨b, rfl⟩ : ∃ n : Nat, b = n := ⟨b.toNat, by omega⟩
  simp only [Int.toNat_natCast]
  split
  · exact hM
  rename_i q2
  have hb : b < zn S 0 := by omega
  have ha : 0 ≤ zat S b := (hI.2.1 b hb).2.2.2.2 (by omega)
  have hal : (zat S b).toNat < zn S 1 := by
    have := zf_lt (fun t => decide (zT S t 0 = b)) (zn S 1)
    unfold zat at ha ⊢
    omega
  show zM (zsS S b f)
  obtain ⟨h1, h2, h3, h4⟩ := hM
  have oT : ∀ j, j ≠ 126 + 4 * (zat S b).toNat + 1 → zsT S b f j = S j := fun j hj => by
    unfold zsT
    split
    · exact zup_ne _ _ hj
    · rfl
  have eT : zPu (zsT S b f) = zPu S ∧ zPd (zsT S b f) = zPd S ∧ zCr (zsT S b f) = zCr S ∧ zEa (zsT S b f) = zEa S + (if f = 1 then zs5 S b else 0) := by
    unfold zsT
    split
    · rw [zPu_o (fun g hg => by omega), zPd_o (fun b g hb hg => by omega), zCr_o (fun b hb => by omega), zEa_u (by omega)]
      exact ⟨rfl, rfl, rfl, by omega⟩
    · exact ⟨rfl, rfl, rfl, by omega⟩
  have e5 : zs 5 (fun g => zB (zsT S b f) b (7 + g)) = zs5 S b := zs_ext (fun g hg => oT _ (by omega))
  obtain ⟨m1, m2, m3, m4⟩ := zsl_m (zsT S b f) (b := b) (by omega) f 5 (Nat.le_refl _)
  rw [e5] at m1 m2
  have oL : ∀ j, (∀ g, g < 5 → j ≠ 150 + 5 * g + 1 ∧ j ≠ 6 + 12 * b + (7 + g)) → j ≠ 126 + 4 * (zat S b).toNat + 1 → zsl (zsT S b f) b f 5 j = S j := fun j h1 h2 => (zsl_o _ _ _ _ _ h1).trans (oT j h2)
  have z0 := zsl_0 (zsT S b f) (b := b) (by omega) f 5
  unfold zsS
  generalize zsl (zsT S b f) b f 5 = X at m1 m2 m3 m4 oL z0 ⊢
  refine ⟨?_, ?_, fun c hc hd g hg => ?_, fun t ht hn => ?_⟩
  · rw [zPu_o (fun g hg => by omega), zEa_o (fun t ht => by omega), zPd_o (fun b g hb hg => by omega), zup_ne _ _ (by omega), oL 5 (fun g hg => by omega) (by omega), m1, m2, m3, eT.1, eT.2.1, eT.2.2.2]
    by_cases w : f = 1
    · rw [if_pos w, if_pos w]; omega
    · rw [if_neg w, if_neg w]; omega
  · rw [zCr_o (fun b hb => by omega), zup_ne _ _ (by omega), oL 4 (fun g hg => by omega) (by omega), m4, eT.2.2.1]
    exact h2
  · have e7 : zB (zup X (6 + 12 * b + 5) (-1)) c (7 + g) = zB X c (7 + g) := zup_ne _ _ (by omega)
    rw [e7]
    by_cases w : c = b
    · rw [w]; exact z0 g hg (Nat.le_refl _)
    · have e5 : zB (zup X (6 + 12 * b + 5) (-1)) c 5 = zB S c 5 := (zup_ne _ _ (by omega)).trans (oL _ (fun g hg => by omega) (by omega))
      rw [e5] at hd
      have e8 : zB X c (7 + g) = zB S c (7 + g) := oL _ (fun k hk => by omega) (by omega)
      rw [e8]
      exact h3 c hc hd g hg
  · rw [zn_up (by omega)] at hn
    have en : zn X 1 = zn S 1 := by unfold zn; rw [oL 1 (fun g hg => by omega) (by omega)]
    rw [en] at hn
    have e1 : zT (zup X (6 + 12 * b + 5) (-1)) t 1 = zT S t 1 := (zup_ne _ _ (by omega)).trans (oL _ (fun g hg => by omega) (by omega))
    rw [e1]
    exact h4 t ht hn
/-- every command keeps the sums -/
theorem zM_cm {S : zR} {h : Nat} (hI : zInv S h) (hM : zM S) {k : Nat} (hk : k < 13) (L : List Int) : zM (zcm S k L).2.2.2 := by
  have h0 := hI.1
  have hc : k = 0 ∨ k = 1 ∨ k = 2 ∨ k = 3 ∨ k = 4 ∨ k = 5 ∨ k = 6 ∨ k = 7 ∨ k = 8 ∨ k = 9 ∨ k = 10 ∨ k = 11 ∨ k = 12 := by omega
  rcases hc with rfl | rfl | rfl | rfl | rfl | rfl | rfl | rfl | rfl | rfl | rfl | rfl | rfl
  · exact zM_bridge hI hM _ _ _ _
  · exact zM_troll hI hM (by omega)
  · exact zM_goat hI hM _ _
  · exact zM_post hI hM _ _
  · exact zM_cross hI hM _ _
  · exact zM_dispute hI hM _ _
  · exact zM_leave hI hM _
  · exact zM_strike hI hM _ _
  · exact zM_strike hI hM _ _
  · exact zM_riddle hI hM _ _ _
  · exact zM_fog hI hM _ _
  · exact zM_settle hI hM _ _
  · exact zM_pass hM _
