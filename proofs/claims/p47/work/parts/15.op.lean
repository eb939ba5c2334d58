/-! WHAT THE COMMANDS DO to the reference's row, and that the relation and what holds of it stay -/
def zup (S : zR) (i : Nat) (v : Int) : zR := fun j => if j = i then v else S j
theorem zup_eq (S : zR) (i : Nat) (v : Int) : zup S i v i = v := if_pos rfl
theorem zup_ne (S : zR) {i j : Nat} (v : Int) (h : j ≠ i) : zup S i v j = S j := if_neg h
theorem zf_ext {p q : Nat → Bool} : ∀ {n : Nat}, (∀ i, i < n → p i = q i) → zf n p = zf n q
  | 0, _ => rfl
  | n + 1, h => by
    unfold zf
    rw [zf_ext (n := n) (fun i hi => h i (by omega)), h n (by omega)]
theorem zat_ext {S T : zR} (h1 : zn T 1 = zn S 1) (h2 : ∀ t, t < zn S 1 → zT T t 0 = zT S t 0) (b : Nat) : zat T b = zat S b := by
  unfold zat
  rw [h1]
  exact zf_ext (fun i hi => by rw [h2 i hi])
theorem zat_up {S : zR} {i : Nat} {v : Int} (b : Nat) (hi : i ≠ 1) (h : ∀ t, t < zn S 1 → 126 + 4 * t + 0 ≠ i) : zat (zup S i v) b = zat S b := by
  refine zat_ext (S := S) (T := zup S i v) ?_ (fun t ht => zup_ne S v (h t ht)) b
  unfold zn
  rw [zup_ne _ _ (Ne.symm hi)]
theorem zs_upd {n : Nat} {f g : Nat → Int} (i : Nat) (hi : i < n) (h : ∀ j, j < n → j ≠ i → g j = f j) : zs n g = zs n f + (g i - f i) := by
  induction n with
  | zero => omega
  | succ n ih =>
    unfold zs
    by_cases hn : i = n
    · subst hn
      rw [zs_ext (n := i) (f := g) (g := f) (fun j hj => h j (by omega) (by omega))]
      omega
    · rw [ih (by omega) (fun j hj hne => h j (by omega) hne), h n (by omega) (fun q => hn q.symm)]
      omega
/-- an update of one cell keeps the relation -/
theorem zRel_ext {W S W2 S2 : zR} (hR : zRel W S) (h0 : W2 2 = S2 0 ∧ S2 0 = S 0 ∧ W2 3 = S2 1 ∧ W2 4 = S2 2) (h1 : W2 0 = S2 3 ∧ W2 1 = S2 5)
    (hB : ∀ b k, b < 10 → k < 13 → k ≠ 4 → (k = 6 → b < zn S 0) → W2 (5 + 13 * b + k) = W (5 + 13 * b + k) ∧ zcb S2 b k = zcb S b k ∨ W2 (5 + 13 * b + k) = zcb S2 b k)
    (hC : ∀ b, b < zn S 0 → b < 10 → W2 (5 + 13 * b + 4) = W (5 + 13 * b + 4) ∧ zat S2 b = zat S b ∨ W2 (5 + 13 * b + 4) = zat S2 b)
    (hT : ∀ t k, t < 6 → k < 4 → W2 (135 + 4 * t + k) = W (135 + 4 * t + k) ∧ zT S2 t k = zT S t k ∨ W2 (135 + 4 * t + k) = zT S2 t k)
    (hG : ∀ t k, t < 5 → k < 5 → W2 (159 + 5 * t + k) = W (159 + 5 * t + k) ∧ zG S2 t k = zG S t k ∨ W2 (159 + 5 * t + k) = zG S2 t k)
    (hn : zn S 0 ≤ 10) : zRel W2 S2 := by
  obtain ⟨⟨r0, r1, r2, r3, r4⟩, rb, rc, rt, rg⟩ := hR
  have e0 : zn S2 0 = zn S 0 := by unfold zn; rw [h0.2.1]
  refine ⟨⟨h1.1, h1.2, h0.1, h0.2.2.1, h0.2.2.2⟩, ?_, ?_, ?_, ?_⟩
  · intro b k hb hk
    rw [e0] at hb
    by_cases h4 : k = 4
    · subst h4
      rcases hC b hb (by omega) with ⟨q1, q2⟩ | q
      · rw [q1, rb b 4 hb hk]
        show zat S b = zat S2 b
        exact q2.symm
      · exact q
    · rcases hB b k (by omega) hk h4 (fun _ => hb) with ⟨q1, q2⟩ | q
      · rw [q1, q2, rb b k hb hk]
      · exact q
  · intro b k hb hk h4 h6
    rcases hB b k hb hk h4 (fun q => absurd q h6) with ⟨q1, q2⟩ | q
    · rw [q1, q2, rc b k hb hk h4 h6]
    · exact q
  · intro t k ht hk
    rcases hT t k ht hk with ⟨q1, q2⟩ | q
    · rw [q1, q2, rt t k ht hk]
    · exact q
  · intro t k ht hk
    rcases hG t k ht hk with ⟨q1, q2⟩ | q
    · rw [q1, q2, rg t k ht hk]
    · exact q
theorem zcb_ext {S S2 : zR} {b k : Nat} (hk : k < 13) (h4 : k ≠ 4) (h : ∀ j, j < 12 → (if k < 4 then k else k - 1) = j → zB S2 b j = zB S b j) : zcb S2 b k = zcb S b k := by
  unfold zcb
  rw [if_neg h4, if_neg h4]
  by_cases q : k < 4
  · rw [if_pos q, if_pos q]
    exact h k (by omega) (by rw [if_pos q])
  · rw [if_neg q, if_neg q]
    exact h (k - 1) (by omega) (by rw [if_neg q])
theorem zcb_eq {S : zR} {b k j : Nat} (h4 : k ≠ 4) (hj : (if k < 4 then k else k - 1) = j) : zcb S b k = zB S b j := by
  unfold zcb
  rw [if_neg h4]
  by_cases q : k < 4
  · rw [if_pos q] at hj ⊢
    rw [hj]
  · rw [if_neg q] at hj ⊢
    rw [hj]
/-- cells of trolls but the post, of goats, of bridges but the counter; the hour, all crossings -/
theorem zRel_T {W S : zR} (hR : zRel W S) (hn : zn S 0 ≤ 10 ∧ zn S 1 ≤ 6) {t k : Nat} (ht : t < 6) (hk : 1 ≤ k ∧ k < 4) (v : Int) : zRel (zup W (135 + 4 * t + k) v) (zup S (126 + 4 * t + k) v) := by
  refine zRel_ext hR ?_ ?_ ?_ ?_ ?_ ?_ hn.1
  · rw [zup_ne _ _ (by omega), zup_ne _ _ (by omega), zup_ne _ _ (by omega), zup_ne _ _ (by omega), zup_ne _ _ (by omega), zup_ne _ _ (by omega)]; exact ⟨hR.1.2.2.1, rfl, hR.1.2.2.2.1, hR.1.2.2.2.2⟩
  · rw [zup_ne _ _ (by omega), zup_ne _ _ (by omega), zup_ne _ _ (by omega), zup_ne _ _ (by omega)]; exact ⟨hR.1.1, hR.1.2.1⟩
  · intro b k2 hb hk2 h4 _
    refine Or.inl ⟨zup_ne _ _ (by omega), zcb_ext hk2 h4 (fun j hj _ => zup_ne _ _ (by omega))⟩
  · intro b hb hb2
    refine Or.inl ⟨zup_ne _ _ (by omega), zat_up b (by omega) (fun u hu => by omega)⟩
  · intro u k2 hu hk2
    by_cases q : u = t ∧ k2 = k
    · obtain ⟨rfl, rfl⟩ := q
      exact Or.inr (by unfold zT; rw [zup_eq, zup_eq])
    · exact Or.inl ⟨zup_ne _ _ (by omega), zup_ne _ _ (by omega)⟩
  · intro u k2 hu hk2
    exact Or.inl ⟨zup_ne _ _ (by omega), zup_ne _ _ (by omega)⟩
theorem zRel_G {W S : zR} (hR : zRel W S) (hn : zn S 0 ≤ 10 ∧ zn S 1 ≤ 6) {g k : Nat} (hg : g < 5) (hk : k < 5) (v : Int) : zRel (zup W (159 + 5 * g + k) v) (zup S (150 + 5 * g + k) v) := by
  refine zRel_ext hR ?_ ?_ ?_ ?_ ?_ ?_ hn.1
  · rw [zup_ne _ _ (by omega), zup_ne _ _ (by omega), zup_ne _ _ (by omega), zup_ne _ _ (by omega), zup_ne _ _ (by omega), zup_ne _ _ (by omega)]; exact ⟨hR.1.2.2.1, rfl, hR.1.2.2.2.1, hR.1.2.2.2.2⟩
  · rw [zup_ne _ _ (by omega), zup_ne _ _ (by omega), zup_ne _ _ (by omega), zup_ne _ _ (by omega)]; exact ⟨hR.1.1, hR.1.2.1⟩
  · intro b k2 hb hk2 h4 _
    refine Or.inl ⟨zup_ne _ _ (by omega), zcb_ext hk2 h4 (fun j hj _ => zup_ne _ _ (by omega))⟩
  · intro b hb hb2
    refine Or.inl ⟨zup_ne _ _ (by omega), zat_up b (by omega) (fun u hu => by omega)⟩
  · intro u k2 hu hk2
    exact Or.inl ⟨zup_ne _ _ (by omega), zup_ne _ _ (by omega)⟩
  · intro u k2 hu hk2
    by_cases q : u = g ∧ k2 = k
    · obtain ⟨rfl, rfl⟩ := q
      exact Or.inr (by unfold zG; rw [zup_eq, zup_eq])
    · exact Or.inl ⟨zup_ne _ _ (by omega), zup_ne _ _ (by omega)⟩
theorem zRel_B {W S : zR} (hR : zRel W S) (hn : zn S 0 ≤ 10 ∧ zn S 1 ≤ 6) {b k j : Nat} (hb : b < zn S 0) (hk : k < 13 ∧ k ≠ 4) (hj : (if k < 4 then k else k - 1) = j) (v : Int) : zRel (zup W (5 + 13 * b + k) v) (zup S (6 + 12 * b + j) v) := by
  have hj2 : j < 12 ∧ (k < 4 ∧ j = k ∨ 4 < k ∧ j + 1 = k) := by split at hj <;> omega
  refine zRel_ext hR ?_ ?_ ?_ ?_ ?_ ?_ hn.1
  · rw [zup_ne _ _ (by omega), zup_ne _ _ (by omega), zup_ne _ _ (by omega), zup_ne _ _ (by omega), zup_ne _ _ (by omega), zup_ne _ _ (by omega)]; exact ⟨hR.1.2.2.1, rfl, hR.1.2.2.2.1, hR.1.2.2.2.2⟩
  · rw [zup_ne _ _ (by omega), zup_ne _ _ (by omega), zup_ne _ _ (by omega), zup_ne _ _ (by omega)]; exact ⟨hR.1.1, hR.1.2.1⟩
  · intro c k2 hc hk2 h4 _
    by_cases q : c = b ∧ k2 = k
    · obtain ⟨rfl, rfl⟩ := q
      exact Or.inr (by rw [zup_eq, zcb_eq h4 hj]; unfold zB; rw [zup_eq])
    · refine Or.inl ⟨zup_ne _ _ (by omega), zcb_ext hk2 h4 (fun j2 hj2 hj3 => zup_ne _ _ ?_)⟩
      split at hj3 <;> omega
  · intro c hc hc2
    refine Or.inl ⟨zup_ne _ _ (by omega), zat_up c (by omega) (fun u hu => by omega)⟩
  · intro u k2 hu hk2
    exact Or.inl ⟨zup_ne _ _ (by omega), zup_ne _ _ (by omega)⟩
  · intro u k2 hu hk2
    exact Or.inl ⟨zup_ne _ _ (by omega), zup_ne _ _ (by omega)⟩
theorem zRel_3 {W S : zR} (hR : zRel W S) (hn : zn S 0 ≤ 10 ∧ zn S 1 ≤ 6) (v : Int) : zRel (zup W 0 v) (zup S 3 v) := by
  refine zRel_ext hR ?_ ?_ ?_ ?_ ?_ ?_ hn.1
  · rw [zup_ne _ _ (by omega), zup_ne _ _ (by omega), zup_ne _ _ (by omega), zup_ne _ _ (by omega), zup_ne _ _ (by omega), zup_ne _ _ (by omega)]; exact ⟨hR.1.2.2.1, rfl, hR.1.2.2.2.1, hR.1.2.2.2.2⟩
  · rw [zup_eq, zup_eq, zup_ne _ _ (by omega), zup_ne _ _ (by omega)]; exact ⟨rfl, hR.1.2.1⟩
  · intro c k2 hc hk2 h4 _
    exact Or.inl ⟨zup_ne _ _ (by omega), zcb_ext hk2 h4 (fun j2 hj2 hj3 => zup_ne _ _ (by omega))⟩
  · intro c hc hc2
    refine Or.inl ⟨zup_ne _ _ (by omega), zat_up c (by omega) (fun u hu => by omega)⟩
  · intro u k2 hu hk2
    exact Or.inl ⟨zup_ne _ _ (by omega), zup_ne _ _ (by omega)⟩
  · intro u k2 hu hk2
    exact Or.inl ⟨zup_ne _ _ (by omega), zup_ne _ _ (by omega)⟩
theorem zRel_4 {W S : zR} (hR : zRel W S) (hn : zn S 0 ≤ 10 ∧ zn S 1 ≤ 6) (v : Int) : zRel W (zup S 4 v) := by
  refine zRel_ext hR ?_ ?_ ?_ ?_ ?_ ?_ hn.1
  · rw [zup_ne _ _ (by omega), zup_ne _ _ (by omega), zup_ne _ _ (by omega)]; exact ⟨hR.1.2.2.1, rfl, hR.1.2.2.2.1, hR.1.2.2.2.2⟩
  · rw [zup_ne _ _ (by omega), zup_ne _ _ (by omega)]; exact ⟨hR.1.1, hR.1.2.1⟩
  · intro c k2 hc hk2 h4 _
    exact Or.inl ⟨rfl, zcb_ext hk2 h4 (fun j2 hj2 hj3 => zup_ne _ _ (by omega))⟩
  · intro c hc hc2
    refine Or.inl ⟨rfl, zat_up c (by omega) (fun u hu => by omega)⟩
  · intro u k2 hu hk2
    exact Or.inl ⟨rfl, zup_ne _ _ (by omega)⟩
  · intro u k2 hu hk2
    exact Or.inl ⟨rfl, zup_ne _ _ (by omega)⟩
/-- posts -/
theorem zat_set_eq {S : zR} {t : Nat} {x : Int} {c : Nat} (ht : t < zn S 1) (hx : x = c) (h : ∀ u, u < zn S 1 → u ≠ t → zT S u 0 ≠ c) : zat (zup S (126 + 4 * t + 0) x) c = t := by
  have e1 : zn (zup S (126 + 4 * t + 0) x) 1 = zn S 1 := by unfold zn; rw [zup_ne _ _ (by omega)]
  unfold zat
  rw [e1]
  refine zf_first _ _ _ ht ?_ (fun i hi => ?_)
  · unfold zT
    rw [zup_eq, decide_eq_true_eq]
    exact hx
  · unfold zT
    rw [zup_ne _ _ (by omega), decide_eq_false_iff_not]
    exact h i (by omega) (by omega)
theorem zat_set_old {S : zR} {t : Nat} {x : Int} {c : Nat} (hx : x ≠ c) (h : ∀ u, u < zn S 1 → u ≠ t → zT S u 0 ≠ c) : zat (zup S (126 + 4 * t + 0) x) c = -1 := by
  have e1 : zn (zup S (126 + 4 * t + 0) x) 1 = zn S 1 := by unfold zn; rw [zup_ne _ _ (by omega)]
  unfold zat
  rw [e1]
  refine zf_none _ _ (fun i hi => ?_)
  unfold zT
  by_cases q : i = t
  · subst q
    rw [zup_eq, decide_eq_false_iff_not]
    exact hx
  · rw [zup_ne _ _ (by omega), decide_eq_false_iff_not]
    exact h i hi q
theorem zat_set_ne {S : zR} {t : Nat} {x : Int} {c : Nat} (hx : x ≠ c) (h : zT S t 0 ≠ c) : zat (zup S (126 + 4 * t + 0) x) c = zat S c := by
  have e1 : zn (zup S (126 + 4 * t + 0) x) 1 = zn S 1 := by unfold zn; rw [zup_ne _ _ (by omega)]
  unfold zat
  rw [e1]
  refine zf_ext (fun i hi => ?_)
  unfold zT at h ⊢
  by_cases q : i = t
  · subst q
    rw [zup_eq, decide_eq_false hx, decide_eq_false h]
  · rw [zup_ne _ _ (by omega)]
theorem zat_none {S : zR} {b : Nat} (h : ¬ 0 ≤ zat S b) : ∀ u, u < zn S 1 → zT S u 0 ≠ b := fun u hu => by
  have h2 := zf_none' h u hu
  simpa using h2
theorem zat_get {S : zR} {h : Nat} (hI : zInv S h) {b : Nat} {t : Nat} (ht : t < zn S 1) (hb : zT S t 0 = b) : zat S b = t := by
  unfold zat
  refine zf_first _ _ _ ht (by rw [hb]; simp) (fun i hi => ?_)
  rw [decide_eq_false_iff_not]
  intro q
  rcases hI.2.2.2.2.2.2.1 t i ht (by omega) (by rw [hb, q]) with q2 | q2
  · omega
  · omega
theorem zat_is {S : zR} {b : Nat} (h : 0 ≤ zat S b) : (zat S b).toNat < zn S 1 ∧ zT S (zat S b).toNat 0 = b := by
  have h1 := zf_lt (fun t => decide (zT S t 0 = b)) (zn S 1)
  have h2 := zf_some (fun t => decide (zT S t 0 = b)) (zn S 1) h
  rw [decide_eq_true_eq] at h2
  refine ⟨?_, h2⟩
  unfold zat at h ⊢
  omega
theorem zRel_P {W S W2 : zR} (hR : zRel W S) (hn : zn S 0 ≤ 10 ∧ zn S 1 ≤ 6) {t : Nat} (ht : t < 6) {x : Int}
    (h1 : ∀ c, c < zn S 0 → W2 (5 + 13 * c + 4) = zat (zup S (126 + 4 * t + 0) x) c) (h2 : W2 (135 + 4 * t + 0) = x) (h3 : ∀ j, (∀ c, c < zn S 0 → j ≠ 5 + 13 * c + 4) → j ≠ 135 + 4 * t + 0 → W2 j = W j) : zRel W2 (zup S (126 + 4 * t + 0) x) := by
  refine zRel_ext hR ?_ ?_ ?_ ?_ ?_ ?_ hn.1
  · rw [zup_ne _ _ (by omega), zup_ne _ _ (by omega), zup_ne _ _ (by omega), h3 2 (fun c hc => by omega) (by omega), h3 3 (fun c hc => by omega) (by omega), h3 4 (fun c hc => by omega) (by omega)]; exact ⟨hR.1.2.2.1, rfl, hR.1.2.2.2.1, hR.1.2.2.2.2⟩
  · rw [zup_ne _ _ (by omega), zup_ne _ _ (by omega), h3 0 (fun c hc => by omega) (by omega), h3 1 (fun c hc => by omega) (by omega)]; exact ⟨hR.1.1, hR.1.2.1⟩
  · intro b k2 hb hk2 h4 _
    exact Or.inl ⟨h3 _ (fun c hc => by omega) (by omega), zcb_ext hk2 h4 (fun j hj _ => zup_ne _ _ (by omega))⟩
  · intro b hb hb2
    exact Or.inr (h1 b hb)
  · intro u k2 hu hk2
    by_cases q : u = t ∧ k2 = 0
    · obtain ⟨rfl, rfl⟩ := q
      exact Or.inr (by unfold zT; rw [zup_eq, h2])
    · exact Or.inl ⟨h3 _ (fun c hc => by omega) (by omega), zup_ne _ _ (by omega)⟩
  · intro u k2 hu hk2
    exact Or.inl ⟨h3 _ (fun c hc => by omega) (by omega), zup_ne _ _ (by omega)⟩
/-- posted at b, after a (-1 for none) -/
theorem zRel_post {W S : zR} {h : Nat} (hR : zRel W S) (hI : zInv S h) {t b : Nat} (ht : t < zn S 1) (hb : b < zn S 0) (hc : ¬ 0 ≤ zat S b) :
    zRel (zup (zup (if zT S t 0 = -1 then W else zup W (5 + 13 * (zT S t 0).toNat + 4) (-1)) (135 + 4 * t + 0) b) (5 + 13 * b + 4) t) (zup S (126 + 4 * t + 0) b) := by
  have hn := zn_le hI
  have h0 := hI.2.2.2.1 t (by omega)
  have h9 := hI.2.2.2.2.2.1 t ht
  have hu : ∀ u, u < zn S 1 → u ≠ t → zT S u 0 ≠ b := fun u hu _ => zat_none hc u hu
  have hne : zT S t 0 ≠ b := zat_none hc t ht
  have e0 := (zn_eq hI).1
  refine zRel_P hR ⟨hn.1, hn.2.1⟩ (by omega) (fun c hc2 => ?_) ?_ (fun j hj1 hj2 => ?_)
  · by_cases q : c = b
    · subst q
      rw [zup_eq, zat_set_eq ht rfl hu]
    · rw [zup_ne _ _ (by omega), zup_ne _ _ (by omega)]
      by_cases q2 : zT S t 0 = c
      · rw [if_neg (by omega), q2, zat_set_old (by omega) (fun u hu2 hne2 q3 => by
          rcases hI.2.2.2.2.2.2.1 t u ht hu2 (by rw [q2, q3]) with q4 | q4
          · omega
          · exact hne2 q4.symm)]
        exact zup_eq _ _ _
      · rw [zat_set_ne (by omega) q2]
        split
        · exact hR.2.1 c 4 hc2 (by omega)
        · rename_i q5
          rw [zup_ne _ _ (by have := h0.1; omega)]
          exact hR.2.1 c 4 hc2 (by omega)
  · rw [zup_ne _ _ (by omega), zup_eq]
  · rw [zup_ne _ _ (hj1 b hb), zup_ne _ _ hj2]
    split
    · rfl
    · exact zup_ne _ _ (hj1 _ (by have := h0.1; omega))
/-- a troll that leaves its bridge -/
theorem zRel_leave {W S : zR} {h : Nat} (hR : zRel W S) (hI : zInv S h) {t : Nat} (ht : t < zn S 1) (hc : ¬ zT S t 0 = -1) :
    zRel (zup (zup W (135 + 4 * t + 0) (-1)) (5 + 13 * (zT S t 0).toNat + 4) (-1)) (zup S (126 + 4 * t + 0) (-1)) := by
  have hn := zn_le hI
  have h0 := hI.2.2.2.1 t (by omega)
  have h9 := hI.2.2.2.2.2.1 t ht
  have e0 := (zn_eq hI).1
  refine zRel_P hR ⟨hn.1, hn.2.1⟩ (by omega) (fun c hc2 => ?_) ?_ (fun j hj1 hj2 => ?_)
  · by_cases q2 : zT S t 0 = c
    · rw [q2, zat_set_old (by omega) (fun u hu2 hne2 q3 => by
          rcases hI.2.2.2.2.2.2.1 t u ht hu2 (by rw [q2, q3]) with q4 | q4
          · omega
          · exact hne2 q4.symm)]
      exact zup_eq _ _ _
    · rw [zat_set_ne (by omega) q2, zup_ne _ _ (by have := h0.1; omega), zup_ne _ _ (by omega)]
      exact hR.2.1 c 4 hc2 (by omega)
  · rw [zup_ne _ _ (by omega), zup_eq]
  · rw [zup_ne _ _ (hj1 _ (by have := h0.1; omega)), zup_ne _ _ hj2]
/-- a troll comes -/
theorem zRel_troll {W S : zR} {h : Nat} (hR : zRel W S) (hI : zInv S h) (hm : zn S 1 < 6) :
    zRel (zup (zup W 3 (S 1 + 1)) (135 + 4 * zn S 1 + 0) (-1)) (zup (zup S (126 + 4 * zn S 1 + 0) (-1)) 1 (S 1 + 1)) := by
  have hn := zn_le hI
  have e0 := zn_eq hI
  refine zRel_ext hR ?_ ?_ ?_ ?_ ?_ ?_ hn.1
  · rw [zup_ne _ _ (by omega), zup_ne _ _ (by omega), zup_ne _ _ (by omega), zup_ne _ _ (by omega), zup_ne _ _ (by omega), zup_eq, zup_eq, zup_ne _ _ (by omega), zup_ne _ _ (by omega), zup_ne _ _ (by omega), zup_ne _ _ (by omega)]; exact ⟨hR.1.2.2.1, rfl, rfl, hR.1.2.2.2.2⟩
  · rw [zup_ne _ _ (by omega), zup_ne _ _ (by omega), zup_ne _ _ (by omega), zup_ne _ _ (by omega), zup_ne _ _ (by omega), zup_ne _ _ (by omega), zup_ne _ _ (by omega), zup_ne _ _ (by omega)]; exact ⟨hR.1.1, hR.1.2.1⟩
  · intro b k2 hb hk2 h4 _
    refine Or.inl ⟨?_, zcb_ext hk2 h4 (fun j hj _ => ?_)⟩
    · rw [zup_ne _ _ (by omega), zup_ne _ _ (by omega)]
    · unfold zB; rw [zup_ne _ _ (by omega), zup_ne _ _ (by omega)]
  · intro b hb hb2
    refine Or.inl ⟨by rw [zup_ne _ _ (by omega), zup_ne _ _ (by omega)], ?_⟩
    have e1 : zn (zup (zup S (126 + 4 * zn S 1 + 0) (-1)) 1 (S 1 + 1)) 1 = zn S 1 + 1 := by unfold zn; rw [zup_eq]; have := hI.1; omega
    unfold zat
    rw [e1]
    have e2 : zf (zn S 1) (fun t => decide (zT (zup (zup S (126 + 4 * zn S 1 + 0) (-1)) 1 (S 1 + 1)) t 0 = b)) = zf (zn S 1) (fun t => decide (zT S t 0 = b)) := zf_ext (fun i hi => by
      unfold zT; rw [zup_ne _ _ (by omega), zup_ne _ _ (by omega)])
    show (if 0 ≤ zf (zn S 1) _ then zf (zn S 1) _ else if _ = true then _ else _) = _
    rw [e2]
    split
    · rfl
    · rename_i q
      rw [if_neg (by unfold zT; dsimp only; rw [zup_ne _ _ (by omega), zup_eq, decide_eq_true_eq]; omega)]
      have := (zf_lt (fun t => decide (zT S t 0 = b)) (zn S 1)).1
      omega
  · intro u k2 hu hk2
    by_cases q : u = zn S 1 ∧ k2 = 0
    · obtain ⟨rfl, rfl⟩ := q
      exact Or.inr (by unfold zT; rw [zup_eq, zup_ne _ _ (by omega), zup_eq])
    · exact Or.inl ⟨by rw [zup_ne _ _ (by omega), zup_ne _ _ (by omega)], by unfold zT; rw [zup_ne _ _ (by omega), zup_ne _ _ (by omega)]⟩
  · intro u k2 hu hk2
    exact Or.inl ⟨by rw [zup_ne _ _ (by omega), zup_ne _ _ (by omega)], by unfold zG; rw [zup_ne _ _ (by omega), zup_ne _ _ (by omega)]⟩
/-- a goat comes -/
theorem zRel_goat {W S : zR} {h : Nat} (hR : zRel W S) (hI : zInv S h) (hm : zn S 2 < 5) (l c : Int) :
    zRel (zup (zup (zup (zup W 4 (S 2 + 1)) 1 (S 5 + c)) (159 + 5 * zn S 2 + 0) l) (159 + 5 * zn S 2 + 1) c) (zup (zup (zup (zup S (150 + 5 * zn S 2 + 0) l) (150 + 5 * zn S 2 + 1) c) 2 (S 2 + 1)) 5 (S 5 + c)) := by
  have hn := zn_le hI
  have h1 := zRel_G (zRel_G hR ⟨hn.1, hn.2.1⟩ hm (by omega : 0 < 5) l) (by
    have e1 : zn (zup S (150 + 5 * zn S 2 + 0) l) 0 = zn S 0 := by unfold zn; rw [zup_ne _ _ (by omega)]
    have e2 : zn (zup S (150 + 5 * zn S 2 + 0) l) 1 = zn S 1 := by unfold zn; rw [zup_ne _ _ (by omega)]
    rw [e1, e2]; exact ⟨hn.1, hn.2.1⟩) hm (by omega : 1 < 5) c
  have e3 : zup (zup (zup (zup W 4 (S 2 + 1)) 1 (S 5 + c)) (159 + 5 * zn S 2 + 0) l) (159 + 5 * zn S 2 + 1) c = zup (zup (zup (zup W (159 + 5 * zn S 2 + 0) l) (159 + 5 * zn S 2 + 1) c) 4 (S 2 + 1)) 1 (S 5 + c) := by
    funext j
    simp only [zup]
    by_cases q1 : j = 1
    · rw [if_neg (by omega), if_neg (by omega), if_pos q1, if_pos q1]
    · by_cases q4 : j = 4
      · rw [if_neg (by omega), if_neg (by omega), if_neg q1, if_pos q4, if_neg q1, if_pos q4]
      · rw [if_neg q1, if_neg q4, if_neg q1, if_neg q4]
  rw [e3]
  have e8 : zn (zup (zup S (150 + 5 * zn S 2 + 0) l) (150 + 5 * zn S 2 + 1) c) 1 ≤ 6 := by unfold zn; rw [zup_ne _ _ (by omega), zup_ne _ _ (by omega)]; exact hn.2.1
  have e9 : zn (zup (zup S (150 + 5 * zn S 2 + 0) l) (150 + 5 * zn S 2 + 1) c) 0 ≤ 10 := by unfold zn; rw [zup_ne _ _ (by omega), zup_ne _ _ (by omega)]; exact hn.1
  generalize zup (zup S (150 + 5 * zn S 2 + 0) l) (150 + 5 * zn S 2 + 1) c = Y at h1 e8 e9 ⊢
  generalize zup (zup W (159 + 5 * zn S 2 + 0) l) (159 + 5 * zn S 2 + 1) c = X at h1 ⊢
  refine zRel_ext h1 ?_ ?_ ?_ ?_ ?_ ?_ e9
  · rw [zup_ne _ _ (by omega), zup_ne _ _ (by omega), zup_ne _ _ (by omega), zup_ne _ _ (by omega), zup_ne _ _ (by omega), zup_ne _ _ (by omega), zup_ne _ _ (by omega), zup_ne _ _ (by omega), zup_ne _ _ (by omega), zup_eq, zup_ne _ _ (by omega), zup_eq]
    exact ⟨h1.1.2.2.1, rfl, h1.1.2.2.2.1, rfl⟩
  · rw [zup_ne _ _ (by omega), zup_ne _ _ (by omega), zup_ne _ _ (by omega), zup_ne _ _ (by omega), zup_eq, zup_eq]
    exact ⟨h1.1.1, rfl⟩
  · intro b k2 hb hk2 h4 _
    refine Or.inl ⟨?_, zcb_ext hk2 h4 (fun j hj _ => ?_)⟩
    · rw [zup_ne _ _ (by omega), zup_ne _ _ (by omega)]
    · unfold zB; rw [zup_ne _ _ (by omega), zup_ne _ _ (by omega)]
  · intro b hb hb2
    refine Or.inl ⟨by rw [zup_ne _ _ (by omega), zup_ne _ _ (by omega)], ?_⟩
    rw [zat_up b (by omega) (fun u hu => by omega), zat_up b (by omega) (fun u hu => by omega)]
  · intro u k2 hu hk2
    exact Or.inl ⟨by rw [zup_ne _ _ (by omega), zup_ne _ _ (by omega)], by unfold zT; rw [zup_ne _ _ (by omega), zup_ne _ _ (by omega)]⟩
  · intro u k2 hu hk2
    exact Or.inl ⟨by rw [zup_ne _ _ (by omega), zup_ne _ _ (by omega)], by unfold zG; rw [zup_ne _ _ (by omega), zup_ne _ _ (by omega)]⟩
/-- a bridge comes: the reference empties its cells first -/
def zz (S : zR) (n : Nat) : zR := fun j => if 6 + 12 * n ≤ j ∧ j < 6 + 12 * n + 12 then 0 else S j
def zbS (S : zR) (o p q r : Int) : zR := zup (zup (zup (zup (zup (zup (zz S (zn S 0)) (6 + 12 * zn S 0 + 0) o) (6 + 12 * zn S 0 + 1) p) (6 + 12 * zn S 0 + 2) q) (6 + 12 * zn S 0 + 3) r) (6 + 12 * zn S 0 + 5) (-1)) 0 (S 0 + 1)
def zbW (W : zR) (n : Nat) (o p q r : Int) : zR := zup (zup (zup (zup (zup (zup (zup W 2 (n + 1)) (5 + 13 * n + 0) o) (5 + 13 * n + 1) p) (5 + 13 * n + 2) q) (5 + 13 * n + 3) r) (5 + 13 * n + 4) (-1)) (5 + 13 * n + 6) (-1)
theorem zbS_o {S : zR} {o p q r : Int} {j : Nat} (h0 : j ≠ 0) (hj : ¬ (6 + 12 * zn S 0 ≤ j ∧ j < 6 + 12 * zn S 0 + 12)) : zbS S o p q r j = S j := by
  unfold zbS
  rw [zup_ne _ _ h0, zup_ne _ _ (by omega), zup_ne _ _ (by omega), zup_ne _ _ (by omega), zup_ne _ _ (by omega), zup_ne _ _ (by omega)]
  exact if_neg hj
theorem zbS_n {S : zR} {o p q r : Int} {k : Nat} (hk : k < 12) : zB (zbS S o p q r) (zn S 0) k = (if k = 0 then o else if k = 1 then p else if k = 2 then q else if k = 3 then r else if k = 5 then -1 else 0) := by
  unfold zbS zB
  have hk2 : k = 0 ∨ k = 1 ∨ k = 2 ∨ k = 3 ∨ k = 5 ∨ (k = 4 ∨ 5 < k) := by omega
  rcases hk2 with rfl | rfl | rfl | rfl | rfl | hk3
  · rw [zup_ne _ _ (by omega), zup_ne _ _ (by omega), zup_ne _ _ (by omega), zup_ne _ _ (by omega), zup_ne _ _ (by omega), zup_eq]; rfl
  · rw [zup_ne _ _ (by omega), zup_ne _ _ (by omega), zup_ne _ _ (by omega), zup_ne _ _ (by omega), zup_eq]; rfl
  · rw [zup_ne _ _ (by omega), zup_ne _ _ (by omega), zup_ne _ _ (by omega), zup_eq]; rfl
  · rw [zup_ne _ _ (by omega), zup_ne _ _ (by omega), zup_eq]; rfl
  · rw [zup_ne _ _ (by omega), zup_eq]; rfl
  · rw [zup_ne _ _ (by omega), zup_ne _ _ (by omega), zup_ne _ _ (by omega), zup_ne _ _ (by omega), zup_ne _ _ (by omega), zup_ne _ _ (by omega)]
    rw [if_neg (by omega), if_neg (by omega), if_neg (by omega), if_neg (by omega), if_neg (by omega)]
    exact if_pos (by omega)
theorem zRel_bridge {W S : zR} {h : Nat} (hR : zRel W S) (hI : zInv S h) (hm : zn S 0 < 10) (o p q r : Int) : zRel (zbW W (zn S 0) o p q r) (zbS S o p q r) := by
  have hn := zn_le hI
  have e0 := zn_eq hI
  have hw : ∀ j, j ≠ 2 → ¬ (5 + 13 * zn S 0 ≤ j ∧ j < 5 + 13 * zn S 0 + 5 ∨ j = 5 + 13 * zn S 0 + 6) → zbW W (zn S 0) o p q r j = W j := fun j h1 h2 => by
    unfold zbW
    rw [zup_ne _ _ (by omega), zup_ne _ _ (by omega), zup_ne _ _ (by omega), zup_ne _ _ (by omega), zup_ne _ _ (by omega), zup_ne _ _ (by omega), zup_ne _ _ h1]
  have hat : ∀ b, zat (zbS S o p q r) b = zat S b := fun b => zat_ext (S := S) (T := zbS S o p q r) (by unfold zn; rw [zbS_o (by omega) (by unfold zn; omega)]) (fun t ht => zbS_o (by omega) (by omega)) b
  have eo : ∀ b k, b ≠ zn S 0 → k < 12 → zB (zbS S o p q r) b k = zB S b k := fun b k h1 h2 => zbS_o (by omega) (by omega)
  have e1 : zn (zbS S o p q r) 0 = zn S 0 + 1 := by
    have : zbS S o p q r 0 = S 0 + 1 := zup_eq _ _ _
    unfold zn at *
    rw [this]; have := hI.1; omega
  have eW : ∀ k, k < 13 → k ≠ 5 → k < 7 → zbW W (zn S 0) o p q r (5 + 13 * zn S 0 + k) = (if k = 0 then o else if k = 1 then p else if k = 2 then q else if k = 3 then r else -1) := fun k hk h5 h7 => by
    unfold zbW
    have hk2 : k = 0 ∨ k = 1 ∨ k = 2 ∨ k = 3 ∨ k = 4 ∨ k = 6 := by omega
    rcases hk2 with rfl | rfl | rfl | rfl | rfl | rfl
    · rw [zup_ne _ _ (by omega), zup_ne _ _ (by omega), zup_ne _ _ (by omega), zup_ne _ _ (by omega), zup_ne _ _ (by omega), zup_eq]; rfl
    · rw [zup_ne _ _ (by omega), zup_ne _ _ (by omega), zup_ne _ _ (by omega), zup_ne _ _ (by omega), zup_eq]; rfl
    · rw [zup_ne _ _ (by omega), zup_ne _ _ (by omega), zup_ne _ _ (by omega), zup_eq]; rfl
    · rw [zup_ne _ _ (by omega), zup_ne _ _ (by omega), zup_eq]; rfl
    · rw [zup_ne _ _ (by omega), zup_eq]; rfl
    · rw [zup_eq]; rfl
  have hcell : ∀ k, k < 13 → k ≠ 4 → zbW W (zn S 0) o p q r (5 + 13 * zn S 0 + k) = zcb (zbS S o p q r) (zn S 0) k := fun k hk h4 => by
    have hz := (hI.2.2.1 (zn S 0) hm).2.2.2.2.2.2 (Nat.le_refl _)
    by_cases h5 : k = 5 ∨ 7 ≤ k
    · rw [hw _ (by omega) (by omega), hR.2.2.1 _ k hm hk h4 (by omega)]
      have e2 : zcb S (zn S 0) k = 0 := by
        rw [zcb_eq h4 rfl]
        rcases h5 with rfl | h7
        · exact hz.1
        · by_cases h8 : k = 7
          · subst h8; exact hz.2.1
          · have := hz.2.2 (k - 8) (by omega)
            rw [if_neg (by omega)]
            rw [← this]
            congr 1
            omega
      rw [e2, zcb_eq h4 rfl, zbS_n (by split <;> omega)]
      rw [if_neg (by split <;> omega), if_neg (by split <;> omega), if_neg (by split <;> omega), if_neg (by split <;> omega), if_neg (by split <;> omega)]
    · rw [eW k hk (by omega) (by omega), zcb_eq h4 rfl, zbS_n (by split <;> omega)]
      have hk2 : k = 0 ∨ k = 1 ∨ k = 2 ∨ k = 3 ∨ k = 6 := by omega
      rcases hk2 with rfl | rfl | rfl | rfl | rfl <;> rfl
  refine ⟨⟨?_, ?_, ?_, ?_, ?_⟩, fun b k hb hk => ?_, fun b k hb hk h4 h6 => ?_, fun t k ht hk => ?_, fun g k hg hk => ?_⟩
  · rw [hw _ (by omega) (by omega), zbS_o (by omega) (by omega)]; exact hR.1.1
  · rw [hw _ (by omega) (by omega), zbS_o (by omega) (by omega)]; exact hR.1.2.1
  · have a1 : zbS S o p q r 0 = S 0 + 1 := zup_eq _ _ _
    rw [a1]
    unfold zbW
    rw [zup_ne _ _ (by omega), zup_ne _ _ (by omega), zup_ne _ _ (by omega), zup_ne _ _ (by omega), zup_ne _ _ (by omega), zup_ne _ _ (by omega), zup_eq, e0.1]
  · rw [hw _ (by omega) (by omega), zbS_o (by omega) (by omega)]; exact hR.1.2.2.2.1
  · rw [hw _ (by omega) (by omega), zbS_o (by omega) (by omega)]; exact hR.1.2.2.2.2
  · rw [e1] at hb
    by_cases q : b = zn S 0
    · subst q
      by_cases h4 : k = 4
      · subst h4
        rw [eW 4 (by omega) (by omega) (by omega)]
        show (-1 : Int) = zat (zbS S o p q r) (zn S 0)
        rw [hat]
        refine (zf_none _ _ (fun i hi => ?_)).symm
        have := hI.2.2.2.2.2.1 i hi
        rw [decide_eq_false_iff_not]
        omega
      · exact hcell k hk h4
    · rw [hw _ (by omega) (by omega), hR.2.1 b k (by omega) hk]
      by_cases h4 : k = 4
      · subst h4
        exact (hat b).symm
      · exact (zcb_ext hk h4 (fun j hj _ => eo b j q hj)).symm
  · by_cases q : b = zn S 0
    · subst q
      exact hcell k hk h4
    · rw [hw _ (by omega) (by omega), hR.2.2.1 b k hb hk h4 h6]
      exact (zcb_ext hk h4 (fun j hj _ => eo b j q hj)).symm
  · rw [hw _ (by omega) (by omega), hR.2.2.2.1 t k ht hk]
    exact (zbS_o (S := S) (o := o) (p := p) (q := q) (r := r) (j := 126 + 4 * t + k) (by omega) (by omega)).symm
  · rw [hw _ (by omega) (by omega), hR.2.2.2.2 g k hg hk]
    exact (zbS_o (S := S) (o := o) (p := p) (q := q) (r := r) (j := 150 + 5 * g + k) (by omega) (by omega)).symm

