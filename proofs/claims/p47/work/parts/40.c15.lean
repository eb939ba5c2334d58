/-! CLASS, 15: all commands read from the text; written by program (wip/tools/zg/s15.py) -/
/-- all commands of a text from a place on, at most so many: kinds and numbers, whether it is well formed, where it goes wrong -/
def zpr (T : Nat → Int) (n : Nat) : Nat → Nat → List (Nat × List Int) × Bool × Int
  | 0, i => ([], false, ((i : Nat) : Int))
  | m + 1, i => if ¬ 0 ≤ zfk T i then ([], false, zer T i 13) else
      if (zms T (zF (zfk T i).toNat) i).1 = n then ([((zfk T i).toNat, (zms T (zF (zfk T i).toNat) i).2.2)], true, 0) else
      if T (zms T (zF (zfk T i).toNat) i).1 = 59 then
        (((zfk T i).toNat, (zms T (zF (zfk T i).toNat) i).2.2) :: (zpr T n m ((zms T (zF (zfk T i).toNat) i).1 + 1)).1, (zpr T n m ((zms T (zF (zfk T i).toNat) i).1 + 1)).2)
      else ([], false, (((zms T (zF (zfk T i).toNat) i).1 : Nat) : Int))
def zPA (T : Nat → Int) (n m c i : Nat) (u : az_S) (o : az_O) (t : az_S) : Prop :=
  o = .inl (some (az_i (az_b ((zpr T n m i).2.1 = true)))) ∧
  ((zpr T n m i).2.1 = true → t 25 3 = ((c + (zpr T n m i).1.length : Nat) : Int) ∧ ∀ q, q < (zpr T n m i).1.length → t 27 (c + q) = ((((zpr T n m i).1.getD q (0, [])).1 : Nat) : Int) ∧ ∀ p, p < ((zpr T n m i).1.getD q (0, [])).2.length → t 29 (4 * (c + q) + p) = ((zpr T n m i).1.getD q (0, [])).2.getD p 0) ∧
  ((zpr T n m i).2.1 = false → t 25 5 = (zpr T n m i).2.2) ∧ (∀ j, j < c → t 27 j = u 27 j) ∧ (∀ j, j < 4 * c → t 29 j = u 29 j) ∧ (∀ j, j ≠ 3 → j ≠ 4 → j ≠ 5 → t 25 j = u 25 j) ∧ ∀ j, j ≠ 25 → j ≠ 27 → j ≠ 29 → t j = u j
theorem zms_ge (T : Nat → Int) : ∀ (F : List Char) (i : Nat), (zms T F i).2.1 = true → i + F.length ≤ (zms T F i).1
  | [], i, _ => Nat.le_refl _
  | w :: F, i, h => by
    unfold zms at h ⊢
    by_cases q : zft (w.toNat : Int) (T i)
    · rw [if_pos q] at h ⊢
      have h1 := zms_ge T F (i + zwd T w.toNat i) h
      have h2 := zwd_r T w.toNat i
      rw [List.length_cons]
      dsimp only
      omega
    · rw [if_neg q] at h
      exact absurd (show false = true from h) (by decide)
theorem zF_5 : ∀ k, k < 13 → 5 ≤ (zF k).length := by decide
/-- a form that fits ends inside the text -/
theorem zms_n {s : az_S} {n : Nat} {T : Nat → Int} (hT : zTx s n T) : ∀ (F : List Char) (i : Nat), (∀ c, c ∈ F → 0 < c.toNat) → i ≤ n → (zms T F i).2.1 = true → (zms T F i).1 ≤ n
  | [], i, _, h, _ => h
  | w :: F, i, hF, hi, h => by
    unfold zms at h ⊢
    by_cases q : zft (w.toNat : Int) (T i)
    · rw [if_pos q] at h ⊢
      refine zms_n hT F _ (fun c hc => hF c (List.mem_cons_of_mem _ hc)) ?_ h
      have h0 := hF w (List.mem_cons_self ..)
      have h1 : i < n := by
        by_cases q1 : i < n
        · exact q1
        · have := hT.2.2.2.1 i (by omega)
          omega
      unfold zwd
      split
      · by_cases q1 : i + 1 < n
        · omega
        · have := hT.2.2.2.1 (i + 1) (by omega)
          omega
      · omega
    · rw [if_neg q] at h
      exact absurd (show false = true from h) (by decide)
theorem zfk_r {T : Nat → Int} {i : Nat} : -1 ≤ zfk T i ∧ zfk T i < 13 := zf_lt _ 13
theorem zfk_ok {T : Nat → Int} {i : Nat} (h : 0 ≤ zfk T i) : (zms T (zF (zfk T i).toNat) i).2.1 = true ∧ i + 5 ≤ (zms T (zF (zfk T i).toNat) i).1 := by
  have h1 : (zms T (zF (zfk T i).toNat) i).2.1 = true := zf_some _ _ h
  have h2 := zms_ge T _ _ h1
  have h3 := zfk_r (T := T) (i := i)
  have h4 := zF_5 (zfk T i).toNat (by omega)
  exact ⟨h1, by omega⟩
theorem zPA_c {T : Nat → Int} {n m c i : Nat} {u t1 t2 : az_S} (h0 : 0 ≤ zfk T i) (hj : ¬ (zms T (zF (zfk T i).toNat) i).1 = n) (h9 : T (zms T (zF (zfk T i).toNat) i).1 = 59)
    (p2 : t1 27 c = zfk T i ∧ ∀ q, q < (zms T (zF (zfk T i).toNat) i).2.2.length → t1 29 (4 * c + q) = (zms T (zF (zfk T i).toNat) i).2.2.getD q 0)
    (h4 : (zms T (zF (zfk T i).toNat) i).2.2.length ≤ 4)
    (p4 : ∀ j, j ≠ 4 → j ≠ 5 → t1 25 j = u 25 j) (p5 : ∀ j, j ≠ c → t1 27 j = u 27 j) (p6 : ∀ j, j < 4 * c → t1 29 j = u 29 j) (p7 : ∀ j, j ≠ 25 → j ≠ 27 → j ≠ 29 → t1 j = u j)
    (r1 : ∀ j, j ≠ 3 → j ≠ 4 → j ≠ 5 → t2 25 j = t1 25 j) (r2 : ∀ j, j ≠ 25 → t2 j = t1 j) {o : az_O} {t : az_S}
    (H : zPA T n m (c + 1) ((zms T (zF (zfk T i).toNat) i).1 + 1) t2 o t) : zPA T n (m + 1) c i u o t := by
  obtain ⟨a1, a2, a3, a4, a5, a6, a7⟩ := H
  have e : zpr T n (m + 1) i = (((zfk T i).toNat, (zms T (zF (zfk T i).toNat) i).2.2) :: (zpr T n m ((zms T (zF (zfk T i).toNat) i).1 + 1)).1, (zpr T n m ((zms T (zF (zfk T i).toNat) i).1 + 1)).2) := by
    conv => lhs; unfold zpr
    rw [if_neg (by omega), if_neg hj, if_pos h9]
  unfold zPA
  rw [e]
  refine ⟨a1, fun h => ?_, a3, fun j hj2 => ?_, fun j hj2 => ?_, fun j j3 j4 j5 => ?_, fun j j1 j2 j3 => ?_⟩
  · obtain ⟨b1, b2⟩ := a2 h
    refine ⟨by rw [b1, List.length_cons]; congr 1; omega, fun q hq => ?_⟩
    match q, hq with
    | 0, _ =>
      refine ⟨?_, fun p hp => ?_⟩
      · show t 27 c = (((zfk T i).toNat : Nat) : Int)
        rw [a4 c (by omega), r2 27 (by decide), p2.1]; omega
      · have hp : p < (zms T (zF (zfk T i).toNat) i).2.2.length := hp
        show t 29 (4 * c + p) = (zms T (zF (zfk T i).toNat) i).2.2.getD p 0
        rw [a5 _ (by omega), r2 29 (by decide), p2.2 p hp]
    | q + 1, hq =>
      have hq : q < (zpr T n m ((zms T (zF (zfk T i).toNat) i).1 + 1)).1.length := by rw [List.length_cons] at hq; omega
      have b3 := b2 q hq
      refine ⟨?_, fun p hp => ?_⟩
      · rw [show c + (q + 1) = c + 1 + q from by omega]; exact b3.1
      · rw [show c + (q + 1) = c + 1 + q from by omega]; exact b3.2 p hp
  · rw [a4 j (by omega), r2 27 (by decide), p5 j (by omega)]
  · rw [a5 j (by omega), r2 29 (by decide), p6 j hj2]
  · rw [a6 j j3 j4 j5, r1 j j3 j4 j5, p4 j j4 j5]
  · rw [a7 j j1 j2 j3, r2 j j1, p7 j j1 j2 j3]
theorem zms_len (T : Nat → Int) : ∀ (F : List Char) (i : Nat), (zms T F i).2.2.length ≤ zpc F
  | [], i => Nat.le_refl _
  | w :: F, i => by
    have h := zms_len T F (i + zwd T w.toNat i)
    unfold zms zpc
    split
    · dsimp only
      rw [List.length_append]
      split <;> simp only [List.length_cons, List.length_nil] <;> omega
    · exact Nat.zero_le _
theorem zms_4 {T : Nat → Int} {k i : Nat} (hk : k < 13) : (zms T (zF k) i).2.2.length ≤ 4 := by
  obtain ⟨tx, _, _, hp, hF⟩ := zF_ok k hk
  have := zms_len T (zF k) i
  rw [hF] at this ⊢
  omega
theorem az_wk {d : Nat} {mt : am_M1} {pc : Nat} {lv : az_L} {st : List az_V} {s : az_S} {Q Q2 : az_O → az_S → Prop} (H : az_R d mt pc lv st s Q) (h : ∀ o t, Q o t → Q2 o t) : az_R d mt pc lv st s Q2 := fun L xs tx htx e gl gd => by
  obtain ⟨n, o, t, h1, h2⟩ := H L xs tx htx e gl gd
  exact ⟨n, o, t, h1, h o t h2⟩
theorem zF_p : ∀ k, k < 13 → ∀ c, c ∈ zF k → 0 < c.toNat := by decide
set_option maxRecDepth 100000 in
set_option maxHeartbeats 800000 in
theorem zs_X3_length_22n {d : Nat} {s : az_S} (hd : 0 ≤ d) {n : Nat} {T : Nat → Int} (hT : zTx s n T) : az_R d am_m_X3_length 0 (az_ini (am_mL am_m_X3_length) [az_r 22]) [] (s) (az_ret (some (az_i (((n : Nat) : Int)))) (s)) := by
  refine az_to 0 (pc2 := 0) (lv2 := [some (az_r 22)]) (st2 := []) (s2 := s) rfl ?_
  refine az_to 2 (pc2 := 4) (lv2 := [some (az_r 22)]) (st2 := [az_i (s 22 2)]) (s2 := s) rfl ?_
  refine az_to 0 (pc2 := 4) (lv2 := [some (az_r 22)]) (st2 := [az_i (((n : Nat) : Int))]) (s2 := s) (by rw [show s 22 2 = ((n : Nat) : Int) from hT.1]; rfl) ?_
  refine az_retI rfl rfl ?_
  exact ⟨rfl, rfl⟩
set_option maxRecDepth 100000 in
set_option maxHeartbeats 800000 in
theorem zs_X1_parse_L10 {d : Nat} {s : az_S} (hd : 8 ≤ d) {n : Nat} {T : Nat → Int} (hT : zTx s n T) : ∀ (mq : Nat) (c : Nat) (i : Nat) (m : Nat) (u : az_S), mq = m → (c + m = 10) → (6 * c ≤ i) → (i ≤ n) → (u 25 3 = ((c : Nat) : Int)) → (u 25 4 = ((i : Nat) : Int)) → (zTx u n T) → az_R d am_m_X1_parse 10 [some (az_r 25)] [] (u) (zPA T n (m + 1) c i u) := by
  intro mq
  induction mq using Nat.strongRecOn with
  | _ mq ih =>
    intro c i m u hm g0 g1 g2 g3 g4 g5
    have hTu := g5
    have h60 : n ≤ 60 := g5.2.1
    refine az_to 2 (pc2 := 14) (lv2 := [some (az_r 25)]) (st2 := [az_i (u 25 3)]) (s2 := u) rfl ?_
    refine az_to 0 (pc2 := 14) (lv2 := [some (az_r 25)]) (st2 := [az_i (((c : Nat) : Int))]) (s2 := u) (by rw [show u 25 3 = ((c : Nat) : Int) from g3]; rfl) ?_
    refine az_to 1 (pc2 := 16) (lv2 := [some (az_r 25)]) (st2 := [az_i (11), az_i (((c : Nat) : Int))]) (s2 := u) rfl ?_
    refine az_if2 91 19 rfl (by decide) (by first | assumption | exact ⟨by omega, by omega⟩) ⟨by decide, by decide⟩ (fun h1 => ?_) (fun h1 => ?_)
    · have h1 : 11 ≤ ((c : Nat) : Int) := h1
      exact absurd h1 (by omega)
    · have h1 : ¬ (11 ≤ ((c : Nat) : Int)) := h1
      refine az_to 1 (pc2 := 20) (lv2 := [some (az_r 25)]) (st2 := [az_r 25]) (s2 := u) rfl ?_
      refine az_cl (m2 := am_m_X1_parseCommand) (as := [az_r 25]) (rest := []) 23 rfl rfl ⟨rfl, rfl⟩ (by omega) (zs_X1_parseCommand (s := u)  (by omega) hTu (by omega) (by omega) g3 g4) (fun v9 t q9 => ?_) (fun E9 t q9 => by cases q9.1)
      obtain ⟨o9, q1, q2, q3, q4, q5, q6⟩ := q9
      cases o9
      have hTt : zTx t n T := ⟨by rw [q6 22 (by decide) (by decide) (by decide)]; exact hTu.1, hTu.2.1, fun k hk => by rw [q6 24 (by decide) (by decide) (by decide)]; exact hTu.2.2.1 k hk, hTu.2.2.2⟩
      refine az_to 0 (pc2 := 23) (lv2 := [some (az_r 25)]) (st2 := [az_i (az_b (0 ≤ zfk T i))]) (s2 := t) rfl ?_
      refine az_ifbe 91 26 rfl (by decide) (fun h2 => ?_) (fun h2 => ?_)
      · have h2 : ¬ (0 ≤ zfk T i) := h2
        refine az_to 1 (pc2 := 92) (lv2 := [some (az_r 25)]) (st2 := [az_i (0)]) (s2 := t) rfl ?_
        refine az_retB rfl rfl (by first | decide | omega | exact Or.inl rfl | exact Or.inr rfl) ?_
        have e : zpr T n (m + 1) i = ([], false, zer T i 13) := by
          conv => lhs; unfold zpr
          rw [if_pos (by assumption)]
        unfold zPA
        rw [e]
        exact ⟨rfl, fun h => absurd (show false = true from h) (by decide), fun _ => q2 (by assumption), fun j hj => q4 j (by omega), fun j hj => q5 j hj, fun j j3 j4 j5 => q3 j j4 j5, fun j j1 j2 j3 => q6 j j1 j2 j3⟩
      · have h2 : 0 ≤ zfk T i := h2
        have hok := zfk_ok h2
        have hkr := zfk_r (T := T) (i := i)
        have hJn := zms_n hTt _ i (zF_p (zfk T i).toNat (by omega)) g2 hok.1
        have hT59 := hTu.2.2.2.1 (zms T (zF (zfk T i).toNat) i).1
        have hTJ := hTu.2.2.2.2 (zms T (zF (zfk T i).toNat) i).1
        have q1a := q1 h2
        refine az_to 3 (pc2 := 31) (lv2 := [some (az_r 25)]) (st2 := [az_i (t 25 3), az_r 25]) (s2 := t) rfl ?_
        refine az_to 0 (pc2 := 31) (lv2 := [some (az_r 25)]) (st2 := [az_i (((c : Nat) : Int)), az_r 25]) (s2 := t) (by rw [show t 25 3 = ((c : Nat) : Int) from (by rw [q3 3 (by decide) (by decide)]; exact g3)]; rfl) ?_
        refine az_to 5 (pc2 := 40) (lv2 := [some (az_r 25)]) (st2 := [az_i ((am_up t 25 3 ((((c : Nat) : Int) + 1))) 25 4)]) (s2 := am_up t 25 3 ((((c : Nat) : Int) + 1))) rfl ?_
        refine az_to 0 (pc2 := 40) (lv2 := [some (az_r 25)]) (st2 := [az_i ((((zms T (zF (zfk T i).toNat) i).1 : Nat) : Int))]) (s2 := am_up t 25 3 ((((c : Nat) : Int) + 1))) (by rw [show (am_up t 25 3 ((((c : Nat) : Int) + 1))) 25 4 = (((zms T (zF (zfk T i).toNat) i).1 : Nat) : Int) from q1a.1]; rfl) ?_
        refine az_to 2 (pc2 := 44) (lv2 := [some (az_r 25)]) (st2 := [az_r 22, az_i ((((zms T (zF (zfk T i).toNat) i).1 : Nat) : Int))]) (s2 := am_up t 25 3 ((((c : Nat) : Int) + 1))) rfl ?_
        refine az_clv (v := some (az_i (((n : Nat) : Int)))) (t := am_up t 25 3 ((((c : Nat) : Int) + 1))) (m2 := am_m_X3_length) (as := [az_r 22]) (rest := [az_i ((((zms T (zF (zfk T i).toNat) i).1 : Nat) : Int))]) 47 rfl rfl ⟨rfl, rfl⟩ (by omega) (zs_X3_length_22n (s := am_up t 25 3 ((((c : Nat) : Int) + 1)))  (by omega) hTt) ?_
        refine az_to 0 (pc2 := 47) (lv2 := [some (az_r 25)]) (st2 := [az_i (((n : Nat) : Int)), az_i ((((zms T (zF (zfk T i).toNat) i).1 : Nat) : Int))]) (s2 := am_up t 25 3 ((((c : Nat) : Int) + 1))) rfl ?_
        refine az_if2 52 50 rfl (by decide) (by first | assumption | exact ⟨by omega, by omega⟩) (by first | assumption | exact ⟨by omega, by omega⟩) (fun h3 => ?_) (fun h3 => ?_)
        · have h3 : ¬ (((zms T (zF (zfk T i).toNat) i).1 : Nat) : Int) = ((n : Nat) : Int) := h3
          refine az_to 3 (pc2 := 57) (lv2 := [some (az_r 25)]) (st2 := [az_i ((am_up t 25 3 ((((c : Nat) : Int) + 1))) 25 4), az_r 25]) (s2 := am_up t 25 3 ((((c : Nat) : Int) + 1))) rfl ?_
          refine az_to 0 (pc2 := 57) (lv2 := [some (az_r 25)]) (st2 := [az_i ((((zms T (zF (zfk T i).toNat) i).1 : Nat) : Int)), az_r 25]) (s2 := am_up t 25 3 ((((c : Nat) : Int) + 1))) (by rw [show (am_up t 25 3 ((((c : Nat) : Int) + 1))) 25 4 = (((zms T (zF (zfk T i).toNat) i).1 : Nat) : Int) from q1a.1]; rfl) ?_
          refine az_to 5 (pc2 := 68) (lv2 := [some (az_r 25)]) (st2 := [az_i ((am_up (am_up t 25 3 ((((c : Nat) : Int) + 1))) 25 5 ((((zms T (zF (zfk T i).toNat) i).1 : Nat) : Int))) 25 4), az_r 22]) (s2 := am_up (am_up t 25 3 ((((c : Nat) : Int) + 1))) 25 5 ((((zms T (zF (zfk T i).toNat) i).1 : Nat) : Int))) rfl ?_
          refine az_to 0 (pc2 := 68) (lv2 := [some (az_r 25)]) (st2 := [az_i ((((zms T (zF (zfk T i).toNat) i).1 : Nat) : Int)), az_r 22]) (s2 := am_up (am_up t 25 3 ((((c : Nat) : Int) + 1))) 25 5 ((((zms T (zF (zfk T i).toNat) i).1 : Nat) : Int))) (by rw [show (am_up (am_up t 25 3 ((((c : Nat) : Int) + 1))) 25 5 ((((zms T (zF (zfk T i).toNat) i).1 : Nat) : Int))) 25 4 = (((zms T (zF (zfk T i).toNat) i).1 : Nat) : Int) from q1a.1]; rfl) ?_
          refine az_clv (v := some (az_i (T ((zms T (zF (zfk T i).toNat) i).1)))) (t := am_up (am_up t 25 3 ((((c : Nat) : Int) + 1))) 25 5 ((((zms T (zF (zfk T i).toNat) i).1 : Nat) : Int))) (m2 := am_m_X3_signAt) (as := [az_r 22, az_i ((((zms T (zF (zfk T i).toNat) i).1 : Nat) : Int))]) (rest := []) 71 rfl rfl ⟨rfl, rfl⟩ (by omega) (zs_X3_signAt_22 (s := am_up (am_up t 25 3 ((((c : Nat) : Int) + 1))) 25 5 ((((zms T (zF (zfk T i).toNat) i).1 : Nat) : Int))) (k := ((zms T (zF (zfk T i).toNat) i).1)) (by omega) hTt (by omega)) ?_
          refine az_to 0 (pc2 := 71) (lv2 := [some (az_r 25)]) (st2 := [az_i (T ((zms T (zF (zfk T i).toNat) i).1))]) (s2 := am_up (am_up t 25 3 ((((c : Nat) : Int) + 1))) 25 5 ((((zms T (zF (zfk T i).toNat) i).1 : Nat) : Int))) rfl ?_
          refine az_to 1 (pc2 := 73) (lv2 := [some (az_r 25)]) (st2 := [az_i (59), az_i (T ((zms T (zF (zfk T i).toNat) i).1))]) (s2 := am_up (am_up t 25 3 ((((c : Nat) : Int) + 1))) 25 5 ((((zms T (zF (zfk T i).toNat) i).1 : Nat) : Int))) rfl ?_
          refine az_if2 78 76 rfl (by decide) (by first | assumption | exact ⟨by omega, by omega⟩) ⟨by decide, by decide⟩ (fun h4 => ?_) (fun h4 => ?_)
          · have h4 : T ((zms T (zF (zfk T i).toNat) i).1) = 59 := h4
            refine az_to 3 (pc2 := 83) (lv2 := [some (az_r 25)]) (st2 := [az_i ((am_up (am_up t 25 3 ((((c : Nat) : Int) + 1))) 25 5 ((((zms T (zF (zfk T i).toNat) i).1 : Nat) : Int))) 25 4), az_r 25]) (s2 := am_up (am_up t 25 3 ((((c : Nat) : Int) + 1))) 25 5 ((((zms T (zF (zfk T i).toNat) i).1 : Nat) : Int))) rfl ?_
            refine az_to 0 (pc2 := 83) (lv2 := [some (az_r 25)]) (st2 := [az_i ((((zms T (zF (zfk T i).toNat) i).1 : Nat) : Int)), az_r 25]) (s2 := am_up (am_up t 25 3 ((((c : Nat) : Int) + 1))) 25 5 ((((zms T (zF (zfk T i).toNat) i).1 : Nat) : Int))) (by rw [show (am_up (am_up t 25 3 ((((c : Nat) : Int) + 1))) 25 5 ((((zms T (zF (zfk T i).toNat) i).1 : Nat) : Int))) 25 4 = (((zms T (zF (zfk T i).toNat) i).1 : Nat) : Int) from q1a.1]; rfl) ?_
            refine az_to 4 (pc2 := 10) (lv2 := [some (az_r 25)]) (st2 := []) (s2 := am_up (am_up (am_up t 25 3 ((((c : Nat) : Int) + 1))) 25 5 ((((zms T (zF (zfk T i).toNat) i).1 : Nat) : Int))) 25 4 (((((zms T (zF (zfk T i).toNat) i).1 : Nat) : Int) + 1))) rfl ?_
            obtain ⟨m2, rfl⟩ : ∃ m2, m = m2 + 1 := ⟨m - 1, by omega⟩
            refine az_wk (ih m2 (by omega) (c + 1) ((zms T (zF (zfk T i).toNat) i).1 + 1) m2 (am_up (am_up (am_up t 25 3 ((((c : Nat) : Int) + 1))) 25 5 ((((zms T (zF (zfk T i).toNat) i).1 : Nat) : Int))) 25 4 (((((zms T (zF (zfk T i).toNat) i).1 : Nat) : Int) + 1))) rfl (by omega) (by omega) (by omega) rfl rfl hTt) (fun o t9 hQ => ?_)
            exact zPA_c (by assumption) (by omega) (by omega) q1a.2 (zms_4 (by omega)) q3 q4 q5 q6 (fun j j3 j4 j5 => by simp [am_up, j3, j4, j5]) (fun j j1 => by funext b; simp [am_up, j1]) hQ
          · have h4 : ¬ (T ((zms T (zF (zfk T i).toNat) i).1) = 59) := h4
            refine az_to 1 (pc2 := 77) (lv2 := [some (az_r 25)]) (st2 := [az_i (0)]) (s2 := am_up (am_up t 25 3 ((((c : Nat) : Int) + 1))) 25 5 ((((zms T (zF (zfk T i).toNat) i).1 : Nat) : Int))) rfl ?_
            refine az_retB rfl rfl (by first | decide | omega | exact Or.inl rfl | exact Or.inr rfl) ?_
            have e : zpr T n (m + 1) i = ([], false, (((zms T (zF (zfk T i).toNat) i).1 : Nat) : Int)) := by
              conv => lhs; unfold zpr
              rw [if_neg (by omega), if_neg (by omega), if_neg (by omega)]
            unfold zPA
            rw [e]
            refine ⟨rfl, fun h => absurd (show false = true from h) (by decide), fun _ => rfl, fun j hj => q4 j (by omega), fun j hj => q5 j hj, fun j j3 j4 j5 => ?_, fun j j1 j2 j3 => ?_⟩
            · rw [← q3 j j4 j5]; simp [am_up, j3, j5]
            · rw [← q6 j j1 j2 j3]; funext b; simp [am_up, j1]
        · have h3 : (((zms T (zF (zfk T i).toNat) i).1 : Nat) : Int) = ((n : Nat) : Int) := Decidable.not_not.mp h3
          refine az_to 1 (pc2 := 51) (lv2 := [some (az_r 25)]) (st2 := [az_i (1)]) (s2 := am_up t 25 3 ((((c : Nat) : Int) + 1))) rfl ?_
          refine az_retB rfl rfl (by first | decide | omega | exact Or.inl rfl | exact Or.inr rfl) ?_
          have e : zpr T n (m + 1) i = ([((zfk T i).toNat, (zms T (zF (zfk T i).toNat) i).2.2)], true, 0) := by
            conv => lhs; unfold zpr
            rw [if_neg (by omega), if_pos (by omega)]
          unfold zPA
          rw [e]
          refine ⟨rfl, fun _ => ⟨rfl, fun q hq => ?_⟩, fun h => absurd (show true = false from h) (by decide), fun j hj => q4 j (by omega), fun j hj => q5 j hj, fun j j3 j4 j5 => ?_, fun j j1 j2 j3 => ?_⟩
          · obtain rfl : q = 0 := by simp only [List.length_cons, List.length_nil] at hq; omega
            refine ⟨?_, fun p hp => ?_⟩
            · show t 27 c = (((zfk T i).toNat : Nat) : Int)
              rw [q1a.2.1]; omega
            · exact q1a.2.2 p hp
          · rw [← q3 j j4 j5]; simp [am_up, j3]
          · rw [← q6 j j1 j2 j3]; funext b; simp [am_up, j1]
set_option maxRecDepth 100000 in
set_option maxHeartbeats 800000 in
theorem zs_X1_parse {d : Nat} {s : az_S} (hd : 8 ≤ d) {n : Nat} {T : Nat → Int} (hT : zTx s n T) : az_R d am_m_X1_parse 0 (az_ini (am_mL am_m_X1_parse) [az_r 25]) [] (s) (fun o t => ∃ u, u 27 = s 27 ∧ u 29 = s 29 ∧ (∀ j, j ≠ 3 → j ≠ 4 → u 25 j = s 25 j) ∧ (∀ j, j ≠ 25 → u j = s j) ∧ zPA T n 11 0 0 u o t) := by
  refine az_to 0 (pc2 := 0) (lv2 := [some (az_r 25)]) (st2 := []) (s2 := s) rfl ?_
  refine az_to 6 (pc2 := 10) (lv2 := [some (az_r 25)]) (st2 := []) (s2 := am_up (am_up s 25 3 (0)) 25 4 (0)) rfl ?_
  refine az_wk (zs_X1_parse_L10 (by omega) hT 10 0 0 10 (am_up (am_up s 25 3 (0)) 25 4 (0)) rfl (by omega) (by omega) (by omega) rfl rfl hT) (fun o t hQ => ⟨am_up (am_up s 25 3 (0)) 25 4 (0), rfl, rfl, fun j j3 j4 => by simp [am_up, j3, j4], fun j j1 => by funext b; simp [am_up, j1], hQ⟩)

