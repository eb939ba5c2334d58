/-! THE LAW, 10: what its isWell counts -/
/-- the land on which a land hangs, looked for from the last bridge on -/
def zhY (S : zR) (u v b : Nat) (on : Int) : Prop := (on = -1 ∨ ∃ (w j : Nat), w < 6 ∧ on = w ∧ b ≤ j ∧ j < zn S 0 ∧ zac S j v = w ∧ zdi S 1 u w + ztk S j = zdi S 1 u v) ∧ ∀ (w j : Nat), w < 6 → b ≤ j → j < zn S 0 → zac S j v = w → zdi S 1 u w + ztk S j = zdi S 1 u v → on ≠ -1 ∧ on ≤ w
theorem zhY_0 (S : zR) (u v : Nat) : zhY S u v (zn S 0) (-1) := ⟨Or.inl rfl, fun w j hw h1 h2 => absurd h1 (by omega)⟩
theorem zhY_n {S : zR} {u v b : Nat} {on : Int} (H : zhY S u v (b + 1) on) (hn : ∀ w : Nat, w < 6 → zac S b v = w → ¬ zdi S 1 u w + ztk S b = zdi S 1 u v) : zhY S u v b on := by
  obtain ⟨h1, h2⟩ := H
  refine ⟨?_, fun w j hw hj hz ha he => ?_⟩
  · rcases h1 with q | ⟨w, j, a1, a2, a3, a4⟩
    · exact Or.inl q
    · exact Or.inr ⟨w, j, a1, a2, by omega, a4⟩
  · by_cases q : j = b
    · subst q
      exact absurd he (hn w hw ha)
    · exact h2 w j hw (by omega) hz ha he
theorem zhY_w {S : zR} {u v b w : Nat} {on : Int} (H : zhY S u v (b + 1) on) (hb : b < zn S 0) (hw : w < 6) (ha : zac S b v = w) (he : zdi S 1 u w + ztk S b = zdi S 1 u v) (ho : on < 0 ∨ (w : Int) < on) : zhY S u v b w := by
  obtain ⟨h1, h2⟩ := H
  refine ⟨Or.inr ⟨w, b, hw, rfl, Nat.le_refl _, hb, ha, he⟩, fun w2 j hw2 hj hz ha2 he2 => ⟨by omega, ?_⟩⟩
  by_cases q : j = b
  · subst q
    omega
  · have := h2 w2 j hw2 (by omega) hz ha2 he2
    rcases h1 with q | ⟨w3, j3, a1, a2, a3⟩
    · omega
    · omega
theorem zhY_k {S : zR} {u v b w : Nat} {on : Int} (H : zhY S u v (b + 1) on) (ha : zac S b v = w) (ho : ¬ on < 0) (hl : on ≤ w) : zhY S u v b on := by
  obtain ⟨h1, h2⟩ := H
  refine ⟨?_, fun w2 j hw hj hz ha2 he => ?_⟩
  · rcases h1 with q | ⟨w, j, a1, a2, a3, a4⟩
    · exact Or.inl q
    · exact Or.inr ⟨w, j, a1, a2, by omega, a4⟩
  · by_cases q : j = b
    · subst q
      omega
    · exact h2 w2 j hw (by omega) hz ha2 he
theorem zlf_i {S : zR} {f u v : Nat} : 0 ≤ zlf S f u v ↔ ∃ b, b < zn S 0 ∧ zdi S 1 f u + ztk S b = zdi S 1 f v ∧ zac S b u = ((v : Nat) : Int) := by
  unfold zlf
  constructor
  · intro h
    refine Decidable.byContradiction (fun q => ?_)
    have e : zf (zn S 0) (fun b => decide (zdi S 1 f u + ztk S b = zdi S 1 f v ∧ zac S b u = ((v : Nat) : Int))) = -1 := zf_none _ _ (fun i hi => decide_eq_false (fun w => q ⟨i, hi, w⟩))
    omega
  · rintro ⟨b, hb, h⟩
    refine Decidable.byContradiction (fun q => ?_)
    have := zf_none' q b hb
    rw [decide_eq_true h] at this
    cases this
theorem zhY_e {S : zR} {h : Nat} (hI : zInv S h) (hh : h ≤ 10000) {u v : Nat} (hv : v < 6) {on : Int} (H : zhY S u v 0 on) : on = zhg S u v := by
  obtain ⟨h1, h2⟩ := H
  unfold zhg
  rcases h1 with rfl | ⟨w, j, hw, rfl, -, hj, ha, he⟩
  · refine (zf_none _ 6 (fun w hw => decide_eq_false (fun q => ?_))).symm
    obtain ⟨b, hb, q1, q2⟩ := zlf_i.mp q
    exact (h2 w b hw (Nat.zero_le _) hb ((zac_sym hI hh hb hw hv).mp q2) q1).1 rfl
  · refine (zf_first _ 6 w hw (decide_eq_true (zlf_i.mpr ⟨j, hj, he, (zac_sym hI hh hj hw hv).mpr ha⟩)) (fun w2 hw2 => decide_eq_false (fun q => ?_))).symm
    obtain ⟨b, hb, q1, q2⟩ := zlf_i.mp q
    have := (h2 w2 b (by omega) (Nat.zero_le _) hb ((zac_sym hI hh hb (by omega) hv).mp q2) q1).2
    omega
theorem zhg_z {S : zR} {h : Nat} (hI : zInv S h) (hh : h ≤ 10000) {u v : Nat} (hu : u < 6) (h0 : zdi S 1 u v = 0) : zhg S u v = -1 := by
  unfold zhg
  refine zf_none _ 6 (fun w hw => decide_eq_false (fun q => ?_))
  obtain ⟨b, hb, q1, q2⟩ := zlf_i.mp q
  have h1 := ztk_r hI hh hb
  have h2 : 0 ≤ zdi S 1 u w := by
    rcases zfw_v hI hh 1 hu hw with z | z
    · omega
    · omega
  omega
/-- hours of a bridge, as the law counts them -/
theorem ztk_w (S : zR) (b : Nat) : ztk S b = zB S b 2 * (1 + az_b (S 3 < zB S b 4)) + (if 0 ≤ zat S b then zdn S (zat S b).toNat else 0) := by
  unfold ztk
  congr 1
  by_cases q : S 3 < zB S b 4
  · rw [if_pos q, az_b1 q]; omega
  · rw [if_neg q, az_b0 q]; omega
theorem zdn_rh {S : zR} {h : Nat} (hI : zInv S h) {t : Nat} (ht : t < 6) (h3 : 0 ≤ S 3) : 0 < zdn S t ↔ 0 < zrh S t := by
  have h9 := (hI.2.2.2.1 t ht).2.2.2.2.2.2.2.2
  unfold zdn zrh
  constructor
  · intro q
    split at q
    · rw [if_pos (by omega)]; omega
    · omega
  · intro q
    split at q
    · rw [if_pos (by omega)]; omega
    · omega
/-- chests of a bridge that isn't disputed, crossings -/
theorem zch_0 {S : zR} {h : Nat} (hI : zInv S h) (hM : zM S) {b : Nat} (hb : b < 10) (hd : zB S b 5 < 0) : zch S b = 0 := by
  have hn := zn_le hI
  unfold zch
  have : zs (zn S 2) (fun g => zB S b (7 + g)) = zs (zn S 2) (fun _ => 0) := zs_ext (fun g hg => hM.2.2.1 b hb hd g (by omega))
  rw [this]
  have z : ∀ n, zs n (fun _ => (0 : Int)) = 0 := fun n => by
    induction n with
    | zero => rfl
    | succ n ih => show zs n (fun _ => (0 : Int)) + 0 = 0; omega
  exact z _
theorem zs_pad (n m : Nat) (f : Nat → Int) (hnm : n ≤ m) (hf : ∀ i, n ≤ i → i < m → f i = 0) : zs m f = zs n f := by
  induction m with
  | zero =>
    have : n = 0 := by omega
    rw [this]
  | succ m ih =>
    by_cases q : n = m + 1
    · rw [q]
    · show zs m f + f m = zs n f
      rw [ih (by omega) (fun i a b => hf i a (by omega)), hf m (by omega) (by omega)]
      omega
theorem zcr_g {S : zR} {h : Nat} (hI : zInv S h) : zs (zn S 2) (fun g => zG S g 4) = S 4 := by
  have hn := zn_le hI
  rw [hI.2.2.2.2.2.2.2]
  exact (zs_pad _ 5 _ hn.2.2 (fun g a b => ((hI.2.2.2.2.1 g b).2.2.2.2.2.2.2.2.2.2 a).2.2.2)).symm
theorem zcr_b {S : zR} {h : Nat} (hI : zInv S h) (hM : zM S) : zs (zn S 0) (fun b => zB S b 6) = S 4 := by
  have hn := zn_le hI
  rw [← hM.2.1]
  exact (zs_pad _ 10 _ hn.1 (fun b a k => ((hI.2.2.1 b k).2.2.2.2.2.2 a).2.1)).symm
theorem zcg_s (S : zR) : zs (zn S 2) (fun g => zcg S g) = zchs S := zs_swap _ _ _
/-- what the law takes for ways -/
theorem zqw_way {S : zR} {h : Nat} (hI : zInv S h) (hh : h ≤ 10000) (m : Nat) {u v : Nat} (hu : u < 6) (hv : v < 6) : zqw (zq_way S m ((u : Nat) : Int) ((v : Nat) : Int)) = (if zfw S m 6 (6 * u + v) = 9999 then -900002 else zfw S m 6 (6 * u + v)) ∧ -900002 ≤ zqw (zq_way S m ((u : Nat) : Int) ((v : Nat) : Int)) ∧ zqw (zq_way S m ((u : Nat) : Int) ((v : Nat) : Int)) ≤ 135 := by
  have e : zq_way S m ((u : Nat) : Int) ((v : Nat) : Int) = if zwy S m u v = -1 then (2, 0) else (0, zwy S m u v) := by
    unfold zq_way
    rw [if_neg (by omega)]
    rfl
  rw [e]
  rcases zfw_v hI hh m hu hv with ⟨h1, h2, h3⟩ | ⟨h1, h2, h3, h4⟩
  · rw [if_pos h3, if_pos h1]
    exact ⟨rfl, by decide, by decide⟩
  · rw [if_neg (by omega), if_neg (by omega)]
    refine ⟨by rw [h1, ← h4]; rfl, ?_, ?_⟩
    · show -900002 ≤ zwy S m u v
      omega
    · show zwy S m u v ≤ 135
      omega
theorem zqw_hang {S : zR} {h : Nat} (hI : zInv S h) (hh : h ≤ 10000) {u v : Nat} (hu : u < 6) (hv : v < 6) : zqw (zq_hangs S ((u : Nat) : Int) ((v : Nat) : Int)) = (if zqw (zq_way S 1 ((u : Nat) : Int) ((v : Nat) : Int)) < 0 then -900002 else zhg S u v) ∧ (0 ≤ zqw (zq_way S 1 ((u : Nat) : Int) ((v : Nat) : Int)) → zqw (zq_way S 1 ((u : Nat) : Int) ((v : Nat) : Int)) = zdi S 1 u v) := by
  have e1 := (zqw_way hI hh 1 hu hv).1
  have e : zq_hangs S ((u : Nat) : Int) ((v : Nat) : Int) = if zwy S 1 u v = -1 then (2, 0) else (0, zhg S u v) := by
    unfold zq_hangs
    rw [if_neg (by omega)]
    rfl
  rw [e, e1]
  rcases zfw_v hI hh 1 hu hv with ⟨h1, h2, h3⟩ | ⟨h1, h2, h3, h4⟩
  · rw [if_pos h3, if_pos h1, if_pos (by decide)]
    exact ⟨rfl, fun q => absurd q (by decide)⟩
  · rw [if_neg (by omega), if_neg (by omega), if_neg (by omega)]
    exact ⟨rfl, fun _ => h1⟩
theorem zhg_r (S : zR) (u v : Nat) : -1 ≤ zhg S u v ∧ zhg S u v < 6 := by
  have := zf_lt (fun w => decide (0 ≤ zlf S u w v)) 6
  unfold zhg
  omega
