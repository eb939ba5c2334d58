/-! A COMMAND OF THE TEXT: math; the kinds joined -/
def zcm (S : zR) (k : Nat) (L : List Int) : zQ :=
  match k with
  | 0 => zo_bridge S (L.getD 0 0) (L.getD 1 0) (L.getD 2 0) (L.getD 3 0)
  | 1 => zo_troll S 
  | 2 => zo_goat S (L.getD 0 0) (L.getD 1 0)
  | 3 => zo_post S (L.getD 0 0) (L.getD 1 0)
  | 4 => zo_cross S (L.getD 0 0) (L.getD 1 0)
  | 5 => zo_dispute S (L.getD 0 0) (L.getD 1 0)
  | 6 => zo_leave S (L.getD 0 0)
  | 7 => zo_strike S (L.getD 0 0) 1
  | 8 => zo_strike S (L.getD 0 0) 0
  | 9 => zo_riddle S (L.getD 0 0) (L.getD 1 0) (L.getD 2 0)
  | 10 => zo_fog S (L.getD 0 0) (L.getD 1 0)
  | 11 => zo_settle S (L.getD 0 0) (L.getD 1 0)
  | _ => zo_pass S (L.getD 0 0)
/-- a command that the text can hold -/
def zgc (k : Nat) (L : List Int) : Prop := k < 13 ∧ zpc (zF k) = L.length ∧ (∀ p, az_in (L.getD p 0)) ∧ (k = 11 → L.getD 1 0 = 1 ∨ L.getD 1 0 = 0)
theorem zpc_k : ∀ k, k < 13 → zpc (zF k) = [4, 0, 2, 2, 2, 2, 1, 1, 1, 3, 2, 2, 1].getD k 0 := by decide
theorem zms_le {T : Nat → Int} : ∀ (F : List Char) (i : Nat), (zms T F i).2.1 = true → (zms T F i).2.2.length = zpc F
  | [], i, _ => rfl
  | w :: F, i, h => by
    unfold zms at h ⊢
    by_cases q : zft (w.toNat : Int) (T i)
    · rw [if_pos q] at h ⊢
      have h1 := zms_le F (i + zwd T w.toNat i) h
      unfold zpc
      dsimp only
      rw [List.length_append, h1]
      split <;> rfl
    · rw [if_neg q] at h
      exact absurd (show false = true from h) (by decide)
theorem zvl_r {T : Nat → Int} {w : Int} {i : Nat} : -1 ≤ zvl T i (zwd T w i) ∧ zvl T i (zwd T w i) ≤ 99 := by
  unfold zvl zwd
  split
  · split <;> omega
  · split <;> split <;> omega
theorem zms_in {T : Nat → Int} : ∀ (F : List Char) (i : Nat) (v : Int), v ∈ (zms T F i).2.2 → -1 ≤ v ∧ v ≤ 99
  | [], i, v, h => absurd h (by unfold zms; simp)
  | w :: F, i, v, h => by
    unfold zms at h
    split at h
    · dsimp only at h
      rw [List.mem_append] at h
      rcases h with h | h
      · split at h
        · rw [List.mem_singleton] at h
          rw [h]
          exact zvl_r
        · exact absurd h (by simp)
      · exact zms_in F _ v h
    · exact absurd h (by simp)
theorem zgD_in {L : List Int} (h : ∀ v, v ∈ L → -1 ≤ v ∧ v ≤ 99) (p : Nat) : az_in (L.getD p 0) := by
  by_cases q : p < L.length
  · have := h (L.getD p 0) (by show (L[p]?).getD 0 ∈ L; rw [List.getElem?_eq_getElem q]; exact List.getElem_mem q)
    exact ⟨by omega, by omega⟩
  · rw [show L.getD p 0 = 0 from by show (L[p]?).getD 0 = 0; rw [List.getElem?_eq_none (by omega)]; rfl]
    exact ⟨by decide, by decide⟩
/-- a letter of a form: no number -/
theorem zms_w {T : Nat → Int} {w : Char} {F : List Char} {i : Nat} (hw : ¬ (((w.toNat : Nat) : Int) = 43 ∨ zdg (w.toNat : Int))) (h : (zms T (w :: F) i).2.1 = true) : (zms T (w :: F) i).2.2 = (zms T F (i + zwd T w.toNat i)).2.2 ∧ (zms T F (i + zwd T w.toNat i)).2.1 = true := by
  unfold zms at h
  rw [show zms T (w :: F) i = _ from by conv => lhs; unfold zms]
  by_cases q : zft (w.toNat : Int) (T i)
  · rw [if_pos q] at h ⊢
    rw [if_neg hw]
    exact ⟨rfl, h⟩
  · rw [if_neg q] at h
    exact absurd (show false = true from h) (by decide)
theorem zms_11 {T : Nat → Int} {i : Nat} (h : (zms T (zF 11) i).2.1 = true) : (zms T (zF 11) i).2.2.getD 1 0 = 1 ∨ (zms T (zF 11) i).2.2.getD 1 0 = 0 := by
  rw [show zF 11 = ['s', 'e', 't', 't', 'l', 'e', ' ', '0', '+'] from by decide] at h ⊢
  obtain ⟨e1, h⟩ := zms_w (by decide) h
  obtain ⟨e2, h⟩ := zms_w (by decide) h
  obtain ⟨e3, h⟩ := zms_w (by decide) h
  obtain ⟨e4, h⟩ := zms_w (by decide) h
  obtain ⟨e5, h⟩ := zms_w (by decide) h
  obtain ⟨e6, h⟩ := zms_w (by decide) h
  obtain ⟨e7, h⟩ := zms_w (by decide) h
  rw [e1, e2, e3, e4, e5, e6, e7]
  rw [zms_d1] at h ⊢
  split at h
  · rename_i q
    rw [if_pos q]
    dsimp only at h ⊢
    rw [zms_pm] at h ⊢
    split at h
    · rename_i q2
      rw [if_pos q2]
      show az_b _ = 1 ∨ az_b _ = 0
      unfold az_b
      split
      · exact Or.inl rfl
      · exact Or.inr rfl
    · exact absurd (show false = true from h) (by decide)
  · exact absurd (show false = true from h) (by decide)
theorem zgc_f {T : Nat → Int} {i : Nat} (h : 0 ≤ zfk T i) : zgc (zfk T i).toNat (zms T (zF (zfk T i).toNat) i).2.2 := by
  have h1 := zfk_r (T := T) (i := i)
  have h2 := zfk_ok h
  refine ⟨by omega, (zms_le _ _ h2.1).symm, zgD_in (zms_in _ _), fun e => ?_⟩
  rw [e] at h2 ⊢
  exact zms_11 h2.1
theorem zpr_g {T : Nat → Int} {n : Nat} : ∀ (m i : Nat) (x : Nat × List Int), x ∈ (zpr T n m i).1 → zgc x.1 x.2
  | 0, i, x, h => absurd h (by unfold zpr; simp)
  | m + 1, i, x, h => by
    unfold zpr at h
    split at h
    · exact absurd h (by simp)
    · split at h
      · rw [List.mem_singleton] at h
        rw [h]
        exact zgc_f (by omega)
      · split at h
        · rw [List.mem_cons] at h
          rcases h with h | h
          · rw [h]
            exact zgc_f (by omega)
          · exact zpr_g m _ x h
        · exact absurd h (by simp)
theorem zpr_n {s : az_S} {T : Nat → Int} {n : Nat} (hT : zTx s n T) : ∀ (m i : Nat), i ≤ n → (zpr T n m i).2.1 = true → 6 * (zpr T n m i).1.length ≤ n + 1 - i
  | 0, i, _, h => absurd (show false = true from h) (by decide)
  | m + 1, i, hi, h => by
    unfold zpr at h ⊢
    by_cases q1 : ¬ 0 ≤ zfk T i
    · rw [if_pos q1] at h
      exact absurd (show false = true from h) (by decide)
    · rw [if_neg q1] at h ⊢
      have h1 := zfk_r (T := T) (i := i)
      have h2 := zfk_ok (T := T) (i := i) (by omega)
      have h3 := zms_n hT _ i (zF_p (zfk T i).toNat (by omega)) hi h2.1
      by_cases q2 : (zms T (zF (zfk T i).toNat) i).1 = n
      · rw [if_pos q2]
        show 6 * 1 ≤ _
        omega
      · rw [if_neg q2] at h ⊢
        by_cases q3 : T (zms T (zF (zfk T i).toNat) i).1 = 59
        · rw [if_pos q3] at h ⊢
          have := zpr_n hT m ((zms T (zF (zfk T i).toNat) i).1 + 1) (by omega) h
          rw [List.length_cons]
          omega
        · rw [if_neg q3] at h
          exact absurd (show false = true from h) (by decide)
theorem zgc_c {k : Nat} {L : List Int} (h : zgc k L) : L.length = [4, 0, 2, 2, 2, 2, 1, 1, 1, 3, 2, 2, 1].getD k 0 := by rw [← h.2.1, zpc_k k h.1]
theorem zX0_co {d : Nat} {s : az_S} (hd : 5 ≤ d) {S : zR} {h : Nat} (hR : zRel (s 3) S) (hI : zInv S h) (hh : h ≤ 10000) (hh9 : h + 1 ≤ 10000) {c : Nat} (hc9 : c ≤ 9) {k : Nat} {L : List Int} (hg : zgc k L) (hk : s 27 c = ((k : Nat) : Int)) (hL : ∀ p, p < L.length → s 29 (4 * c + p) = L.getD p 0) : az_R d am_m_X0_carryOut 0 (az_ini (am_mL am_m_X0_carryOut) [az_r 4, az_r 25, az_i ((c : Nat) : Int)]) [] s (zCq s (zcm S k L)) := by
  have hl := zgc_c hg
  obtain ⟨h13, -, hin, h11⟩ := hg
  have hc : k = 0 ∨ k = 1 ∨ k = 2 ∨ k = 3 ∨ k = 4 ∨ k = 5 ∨ k = 6 ∨ k = 7 ∨ k = 8 ∨ k = 9 ∨ k = 10 ∨ k = 11 ∨ k = 12 := by omega
  rcases hc with rfl | rfl | rfl | rfl | rfl | rfl | rfl | rfl | rfl | rfl | rfl | rfl | rfl
  · replace hl : L.length = 4 := hl
    exact zs_X0_carryOut_0 hd hR hI hh hh9 hc9 hk (by rw [Nat.mul_comm c 4]; exact hL 0 (by omega)) (by rw [Nat.mul_comm c 4]; exact hL 1 (by omega)) (by rw [Nat.mul_comm c 4]; exact hL 2 (by omega)) (by rw [Nat.mul_comm c 4]; exact hL 3 (by omega)) (hin _) (hin _) (hin _) (hin _)
  · replace hl : L.length = 0 := hl
    exact zs_X0_carryOut_1 hd hR hI hh hh9 hc9 hk rfl rfl rfl rfl 
  · replace hl : L.length = 2 := hl
    exact zs_X0_carryOut_2 hd hR hI hh hh9 hc9 hk (by rw [Nat.mul_comm c 4]; exact hL 0 (by omega)) (by rw [Nat.mul_comm c 4]; exact hL 1 (by omega)) rfl rfl (hin _) (hin _)
  · replace hl : L.length = 2 := hl
    exact zs_X0_carryOut_3 hd hR hI hh hh9 hc9 hk (by rw [Nat.mul_comm c 4]; exact hL 0 (by omega)) (by rw [Nat.mul_comm c 4]; exact hL 1 (by omega)) rfl rfl (hin _) (hin _)
  · replace hl : L.length = 2 := hl
    exact zs_X0_carryOut_4 hd hR hI hh hh9 hc9 hk (by rw [Nat.mul_comm c 4]; exact hL 0 (by omega)) (by rw [Nat.mul_comm c 4]; exact hL 1 (by omega)) rfl rfl (hin _) (hin _)
  · replace hl : L.length = 2 := hl
    exact zs_X0_carryOut_5 hd hR hI hh hh9 hc9 hk (by rw [Nat.mul_comm c 4]; exact hL 0 (by omega)) (by rw [Nat.mul_comm c 4]; exact hL 1 (by omega)) rfl rfl (hin _) (hin _)
  · replace hl : L.length = 1 := hl
    exact zs_X0_carryOut_6 hd hR hI hh hh9 hc9 hk (by rw [Nat.mul_comm c 4]; exact hL 0 (by omega)) rfl rfl rfl (hin _)
  · replace hl : L.length = 1 := hl
    exact zs_X0_carryOut_7 hd hR hI hh hh9 hc9 hk (by rw [Nat.mul_comm c 4]; exact hL 0 (by omega)) rfl rfl rfl (hin _)
  · replace hl : L.length = 1 := hl
    exact zs_X0_carryOut_8 hd hR hI hh hh9 hc9 hk (by rw [Nat.mul_comm c 4]; exact hL 0 (by omega)) rfl rfl rfl (hin _)
  · replace hl : L.length = 3 := hl
    exact zs_X0_carryOut_9 hd hR hI hh hh9 hc9 hk (by rw [Nat.mul_comm c 4]; exact hL 0 (by omega)) (by rw [Nat.mul_comm c 4]; exact hL 1 (by omega)) (by rw [Nat.mul_comm c 4]; exact hL 2 (by omega)) rfl (hin _) (hin _) (hin _)
  · replace hl : L.length = 2 := hl
    exact zs_X0_carryOut_10 hd hR hI hh hh9 hc9 hk (by rw [Nat.mul_comm c 4]; exact hL 0 (by omega)) (by rw [Nat.mul_comm c 4]; exact hL 1 (by omega)) rfl rfl (hin _) (hin _)
  · replace hl : L.length = 2 := hl
    rcases h11 rfl with q | q
    · show az_R _ _ _ _ _ _ (zCq s (zo_settle S (L.getD 0 0) (L.getD 1 0)))
      rw [q]
      exact zs_X0_carryOut_11a hd hR hI hh hh9 hc9 hk (by rw [Nat.mul_comm c 4]; exact hL 0 (by omega)) (by rw [Nat.mul_comm c 4]; rw [hL 1 (by omega)]; exact q) rfl rfl (hin _)
    · show az_R _ _ _ _ _ _ (zCq s (zo_settle S (L.getD 0 0) (L.getD 1 0)))
      rw [q]
      exact zs_X0_carryOut_11b hd hR hI hh hh9 hc9 hk (by rw [Nat.mul_comm c 4]; exact hL 0 (by omega)) (by rw [Nat.mul_comm c 4]; rw [hL 1 (by omega)]; exact q) rfl rfl (hin _)
  · replace hl : L.length = 1 := hl
    exact zs_X0_carryOut_12 hd hR hI hh hh9 hc9 hk (by rw [Nat.mul_comm c 4]; exact hL 0 (by omega)) rfl rfl rfl (hin _)
theorem zIv_cm {S : zR} {h : Nat} (hI : zInv S h) (hh : h ≤ 10000) {k : Nat} (hk : k < 13) (L : List Int) : zInv (zcm S k L).2.2.2 (h + 1) := by
  have hc : k = 0 ∨ k = 1 ∨ k = 2 ∨ k = 3 ∨ k = 4 ∨ k = 5 ∨ k = 6 ∨ k = 7 ∨ k = 8 ∨ k = 9 ∨ k = 10 ∨ k = 11 ∨ k = 12 := by omega
  rcases hc with rfl | rfl | rfl | rfl | rfl | rfl | rfl | rfl | rfl | rfl | rfl | rfl | rfl
  · exact zIv_bridge hI _ _ _ _
  · exact zIv_troll hI
  · exact zIv_goat hI _ _
  · exact zIv_post hI _ _
  · exact zIv_cross hI hh _ _
  · exact zIv_dispute hI _ _
  · exact zIv_leave hI _
  · exact zIv_strike hI _ 1 (by decide)
  · exact zIv_strike hI _ 0 (by decide)
  · exact zIv_riddle hI _ _ _
  · exact zIv_fog hI _ _
  · exact zIv_settle hI hh _ _
  · exact zIv_pass hI _
/-- kinds and reasons of what becomes of a command -/
def zkr (q : zQ) : Prop := q.1 ≤ 3 ∧ (q.1 = 3 → 1 ≤ q.2.1 ∧ q.2.1 ≤ 12)
theorem zkr_k {k : Nat} {x y : Int} {S : zR} (hk : k ≤ 2) : zkr (k, x, y, S) := ⟨Nat.le_succ_of_le hk, fun w => absurd (show k = 3 from w) (by omega)⟩
theorem zkr_3 {x y : Int} {S : zR} (h : 1 ≤ x ∧ x ≤ 12) : zkr (3, x, y, S) := ⟨Nat.le_refl 3, fun _ => h⟩
theorem zkr_bridge (S : zR) (o p q r : Int) : zkr (zo_bridge S o p q r) := by
  unfold zo_bridge
  repeat (first | exact zkr_k (k := 0) (by decide) | exact zkr_k (k := 1) (by decide) | exact zkr_k (k := 2) (by decide) | exact zkr_3 ⟨by decide, by decide⟩ | split)
theorem zkr_troll (S : zR) : zkr (zo_troll S ) := by
  unfold zo_troll
  repeat (first | exact zkr_k (k := 0) (by decide) | exact zkr_k (k := 1) (by decide) | exact zkr_k (k := 2) (by decide) | exact zkr_3 ⟨by decide, by decide⟩ | split)
theorem zkr_goat (S : zR) (l c : Int) : zkr (zo_goat S l c) := by
  unfold zo_goat
  repeat (first | exact zkr_k (k := 0) (by decide) | exact zkr_k (k := 1) (by decide) | exact zkr_k (k := 2) (by decide) | exact zkr_3 ⟨by decide, by decide⟩ | split)
theorem zkr_post (S : zR) (t b : Int) : zkr (zo_post S t b) := by
  unfold zo_post
  repeat (first | exact zkr_k (k := 0) (by decide) | exact zkr_k (k := 1) (by decide) | exact zkr_k (k := 2) (by decide) | exact zkr_3 ⟨by decide, by decide⟩ | split)
theorem zkr_leave (S : zR) (t : Int) : zkr (zo_leave S t) := by
  unfold zo_leave
  repeat (first | exact zkr_k (k := 0) (by decide) | exact zkr_k (k := 1) (by decide) | exact zkr_k (k := 2) (by decide) | exact zkr_3 ⟨by decide, by decide⟩ | split)
theorem zkr_riddle (S : zR) (t d n : Int) : zkr (zo_riddle S t d n) := by
  unfold zo_riddle
  repeat (first | exact zkr_k (k := 0) (by decide) | exact zkr_k (k := 1) (by decide) | exact zkr_k (k := 2) (by decide) | exact zkr_3 ⟨by decide, by decide⟩ | split)
theorem zkr_fog (S : zR) (b n : Int) : zkr (zo_fog S b n) := by
  unfold zo_fog
  repeat (first | exact zkr_k (k := 0) (by decide) | exact zkr_k (k := 1) (by decide) | exact zkr_k (k := 2) (by decide) | exact zkr_3 ⟨by decide, by decide⟩ | split)
theorem zkr_price (S : zR) (b r : Int) : zkr (zo_price S b r) := by
  unfold zo_price
  repeat (first | exact zkr_k (k := 0) (by decide) | exact zkr_k (k := 1) (by decide) | exact zkr_k (k := 2) (by decide) | exact zkr_3 ⟨by decide, by decide⟩ | split)
theorem zkr_cross (S : zR) (g b : Int) : zkr (zo_cross S g b) := by
  unfold zo_cross
  repeat (first | exact zkr_k (k := 0) (by decide) | exact zkr_k (k := 1) (by decide) | exact zkr_k (k := 2) (by decide) | exact zkr_3 ⟨by decide, by decide⟩ | split)
theorem zkr_dispute (S : zR) (g b : Int) : zkr (zo_dispute S g b) := by
  unfold zo_dispute
  repeat (first | exact zkr_k (k := 0) (by decide) | exact zkr_k (k := 1) (by decide) | exact zkr_k (k := 2) (by decide) | exact zkr_3 ⟨by decide, by decide⟩ | split)
theorem zkr_settle (S : zR) (b f : Int) : zkr (zo_settle S b f) := by
  unfold zo_settle
  repeat (first | exact zkr_k (k := 0) (by decide) | exact zkr_k (k := 1) (by decide) | exact zkr_k (k := 2) (by decide) | exact zkr_3 ⟨by decide, by decide⟩ | split)
theorem zkr_strike (S : zR) (g v : Int) : zkr (zo_strike S g v) := by
  unfold zo_strike
  repeat (first | exact zkr_k (k := 0) (by decide) | exact zkr_k (k := 1) (by decide) | exact zkr_k (k := 2) (by decide) | exact zkr_3 ⟨by decide, by decide⟩ | split)
theorem zkr_pass (S : zR) (n : Int) : zkr (zo_pass S n) := by
  unfold zo_pass
  repeat (first | exact zkr_k (k := 0) (by decide) | exact zkr_k (k := 1) (by decide) | exact zkr_k (k := 2) (by decide) | exact zkr_3 ⟨by decide, by decide⟩ | split)
theorem zk1_troll (S : zR) : (zo_troll S ).1 ≠ 1 := by
  unfold zo_troll
  repeat (first | exact (show (0 : Nat) ≠ 1 from by decide) | exact (show (2 : Nat) ≠ 1 from by decide) | exact (show (3 : Nat) ≠ 1 from by decide) | split)
theorem zk2_troll (S : zR) : (zo_troll S ).1 ≠ 2 := by
  unfold zo_troll
  repeat (first | exact (show (0 : Nat) ≠ 2 from by decide) | exact (show (1 : Nat) ≠ 2 from by decide) | exact (show (3 : Nat) ≠ 2 from by decide) | split)
theorem zk2_post (S : zR) (t b : Int) : (zo_post S t b).1 ≠ 2 := by
  unfold zo_post
  repeat (first | exact (show (0 : Nat) ≠ 2 from by decide) | exact (show (1 : Nat) ≠ 2 from by decide) | exact (show (3 : Nat) ≠ 2 from by decide) | split)
theorem zk2_leave (S : zR) (t : Int) : (zo_leave S t).1 ≠ 2 := by
  unfold zo_leave
  repeat (first | exact (show (0 : Nat) ≠ 2 from by decide) | exact (show (1 : Nat) ≠ 2 from by decide) | exact (show (3 : Nat) ≠ 2 from by decide) | split)
theorem zk2_cross (S : zR) (g b : Int) : (zo_cross S g b).1 ≠ 2 := by
  unfold zo_cross
  repeat (first | exact (show (0 : Nat) ≠ 2 from by decide) | exact (show (1 : Nat) ≠ 2 from by decide) | exact (show (3 : Nat) ≠ 2 from by decide) | split)
theorem zk2_dispute (S : zR) (g b : Int) : (zo_dispute S g b).1 ≠ 2 := by
  unfold zo_dispute
  repeat (first | exact (show (0 : Nat) ≠ 2 from by decide) | exact (show (1 : Nat) ≠ 2 from by decide) | exact (show (3 : Nat) ≠ 2 from by decide) | split)
theorem zk2_settle (S : zR) (b f : Int) : (zo_settle S b f).1 ≠ 2 := by
  unfold zo_settle
  repeat (first | exact (show (0 : Nat) ≠ 2 from by decide) | exact (show (1 : Nat) ≠ 2 from by decide) | exact (show (3 : Nat) ≠ 2 from by decide) | split)
theorem zk2_strike (S : zR) (g v : Int) : (zo_strike S g v).1 ≠ 2 := by
  unfold zo_strike
  repeat (first | exact (show (0 : Nat) ≠ 2 from by decide) | exact (show (1 : Nat) ≠ 2 from by decide) | exact (show (3 : Nat) ≠ 2 from by decide) | split)
theorem zk1_pass (S : zR) (n : Int) : (zo_pass S n).1 ≠ 1 := by
  unfold zo_pass
  repeat (first | exact (show (0 : Nat) ≠ 1 from by decide) | exact (show (2 : Nat) ≠ 1 from by decide) | exact (show (3 : Nat) ≠ 1 from by decide) | split)
theorem zk3_pass (S : zR) (n : Int) : (zo_pass S n).1 ≠ 3 := by
  unfold zo_pass
  repeat (first | exact (show (0 : Nat) ≠ 3 from by decide) | exact (show (1 : Nat) ≠ 3 from by decide) | exact (show (2 : Nat) ≠ 3 from by decide) | split)
theorem zkr_cm (S : zR) (k : Nat) (L : List Int) : zkr (zcm S k L) := by
  unfold zcm
  split
  · exact zkr_bridge S _ _ _ _
  · exact zkr_troll S
  · exact zkr_goat S _ _
  · exact zkr_post S _ _
  · exact zkr_cross S _ _
  · exact zkr_dispute S _ _
  · exact zkr_leave S _
  · exact zkr_strike S _ _
  · exact zkr_strike S _ _
  · exact zkr_riddle S _ _ _
  · exact zkr_fog S _ _
  · exact zkr_settle S _ _
  · exact zkr_pass S _
theorem zcm_4 (S : zR) (k : Nat) (L : List Int) : (zcm S k L).1 ≤ 3 := (zkr_cm S k L).1

