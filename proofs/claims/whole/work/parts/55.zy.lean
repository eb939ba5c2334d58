/-! THE STATE BETWEEN CALLS, 2: all of it, and how changes and questions keep it -/
def zyW (s : az_S) (h : Nat) : Prop := zrr (s 3) (s 35) h
/-- the past: p where the next goes, c how many -/
def zyP (s : az_S) (h p c : Nat) : Prop := p ≤ 8 ∧ c ≤ 8 ∧ s 17 1 = ((p : Nat) : Int) ∧ s 17 2 = ((c : Nat) : Int) ∧ s 34 5 = ((c : Nat) : Int) ∧ ∀ i, i < c → zrr (fun j => s 19 ((p + 9 - c + i) % 9 * 184 + j)) (fun j => s 38 (175 * i + j)) h
def zyN (s : az_S) (h : Nat) : Prop := s 0 5 = s 34 12 ∧ (s 0 5 = 0 ∨ (s 0 5 = 1 ∧ zrr (s 21) (s 37) h))
def zyT (s : az_S) : Prop := s 22 1 = 60 ∧ ∃ n T, zTx s n T ∧ zTy s n T
def zyE (s : az_S) : Prop := s 0 10 = s 34 11 ∧ -1 ≤ s 0 10 ∧ s 0 10 ≤ 1000
def zyF (s : az_S) : Prop := s 33 0 = s 34 7 ∧ s 33 1 = s 34 8 ∧ s 33 2 = s 34 9 ∧ (s 33 2 ≠ 0 → s 33 3 = s 34 10) ∧ 0 ≤ s 33 0 ∧ s 33 0 ≤ 12 ∧ 0 ≤ s 33 2 ∧ s 33 2 ≤ 12
def zyL (s : az_S) : Prop := s 30 1 = 16 ∧ ∃ l, zLn s l ∧ zLm s l ∧ l.length ≤ 16 ∧ ∀ v, v ∈ l → 0 ≤ v ∧ v < 65536
def zyS (s : az_S) (h : Nat) : Prop := zyW s h ∧ (∃ p c, zyP s h p c) ∧ zyN s h ∧ zyT s ∧ zyE s ∧ zyF s ∧ zyL s
theorem zyP_c {s t : az_S} {h h2 p c : Nat} (H : zyP s h p c) (hl : h ≤ h2) (e1 : t 17 1 = s 17 1) (e2 : t 17 2 = s 17 2) (e5 : t 34 5 = s 34 5) (e19 : t 19 = s 19) (e38 : t 38 = s 38) : zyP t h2 p c := by
  obtain ⟨a1, a2, a3, a4, a5, a6⟩ := H
  refine ⟨a1, a2, by rw [e1]; exact a3, by rw [e2]; exact a4, by rw [e5]; exact a5, fun i hi => ?_⟩
  rw [e19, e38]
  exact zrr_up (a6 i hi) hl
theorem zyN_c {s t : az_S} {h h2 : Nat} (H : zyN s h) (hl : h ≤ h2) (e5 : t 0 5 = s 0 5) (e12 : t 34 12 = s 34 12) (e21 : t 21 = s 21) (e37 : t 37 = s 37) : zyN t h2 := by
  unfold zyN
  rw [e5, e12, e21, e37]
  exact ⟨H.1, H.2.elim Or.inl (fun q => Or.inr ⟨q.1, zrr_up q.2 hl⟩)⟩
theorem zyT_c {s t : az_S} (H : zyT s) (e1 : t 22 1 = s 22 1) (e2 : t 22 2 = s 22 2) (e24 : t 24 = s 24) (e17 : t 34 17 = s 34 17) (e41 : t 41 = s 41) : zyT t := by
  obtain ⟨h1, n, T, h2, h3⟩ := H
  refine ⟨by rw [e1]; exact h1, n, T, ?_, ?_⟩
  · unfold zTx
    rw [e2, e24]
    exact h2
  · unfold zTy
    rw [e17, e41]
    exact h3
theorem zyE_c {s t : az_S} (H : zyE s) (e1 : t 0 10 = s 0 10) (e2 : t 34 11 = s 34 11) : zyE t := by
  unfold zyE
  rw [e1, e2]
  exact H
theorem zyF_c {s t : az_S} (H : zyF s) (e1 : t 33 = s 33) (e7 : t 34 7 = s 34 7) (e8 : t 34 8 = s 34 8) (e9 : t 34 9 = s 34 9) (e0 : t 34 10 = s 34 10) : zyF t := by
  unfold zyF
  rw [e1, e7, e8, e9, e0]
  exact H
theorem zyL_c {s t : az_S} (H : zyL s) (e1 : t 30 1 = s 30 1) (e2 : t 30 2 = s 30 2) (e32 : t 32 = s 32) (e14 : t 34 14 = s 34 14) (e40 : t 40 = s 40) : zyL t := by
  obtain ⟨h1, l, h2, h3, h4⟩ := H
  refine ⟨by rw [e1]; exact h1, l, ?_, ?_, h4⟩
  · unfold zLn
    rw [e1, e2, e32]
    exact h2
  · unfold zLm
    rw [e14, e40]
    exact h3
/-- what a call answers in the class and in the reference: alike, or thrown and its number -/
def zMt (es : List Nat) (o o2 : az_O) (k : Int) : Prop := (∃ v, o = .inl (some (az_i v)) ∧ o2 = .inl (some (az_i v)) ∧ k = 0) ∨ ∃ (j E : Nat) (v : Int), o = .inr E ∧ es[j]? = some E ∧ o2 = .inl (some (az_i v)) ∧ k = ((j + 1 : Nat) : Int)
/-- the answer of a question -/
theorem zMt_q {es : List Nat} {r : Nat × Int} (h : r.1 ≤ es.length) : zMt es (zoe es r) (.inl (some (az_i (if r.1 = 0 then r.2 else 0)))) ((r.1 : Nat) : Int) := by
  unfold zMt zoe
  by_cases q : r.1 = 0
  · rw [if_pos q, if_pos q]
    exact Or.inl ⟨_, rfl, rfl, by omega⟩
  · rw [if_neg q, if_neg q]
    refine Or.inr ⟨r.1 - 1, es.getD (r.1 - 1) 0, 0, rfl, ?_, rfl, by omega⟩
    show es[r.1 - 1]? = some ((es[r.1 - 1]?).getD 0)
    rw [List.getElem?_eq_getElem (by omega)]
    rfl
/-- a question: the class's cells of ways may change, the reference's state too -/
theorem zyS_q {s t t2 : az_S} {h k : Nat} (H : zyS s h) (h1 : zFq s t) (h2 : zFm t t2 k) : zyS t2 (h + 10) := by
  obtain ⟨hW, ⟨p, c, hP⟩, hN, hT, hE, hF, hL⟩ := H
  obtain ⟨_, f2, f3⟩ := h2
  have g : ∀ i, i ≠ 8 → i ≠ 10 → i ≠ 12 → i ≠ 14 → i ≠ 16 → i ≠ 34 → i ≠ 39 → t2 i = s i := fun i a b c d e f g => by rw [f3 i f g, h1 i a b c d e]
  have g4 : ∀ j, j ≠ 6 → t2 34 j = s 34 j := fun j hj => by rw [f2 j hj, h1 34 (by decide) (by decide) (by decide) (by decide) (by decide)]
  refine ⟨?_, ⟨p, c, zyP_c hP (by omega) (by rw [g 17 (by decide) (by decide) (by decide) (by decide) (by decide) (by decide) (by decide)]) (by rw [g 17 (by decide) (by decide) (by decide) (by decide) (by decide) (by decide) (by decide)]) (g4 5 (by decide)) (g 19 (by decide) (by decide) (by decide) (by decide) (by decide) (by decide) (by decide)) (g 38 (by decide) (by decide) (by decide) (by decide) (by decide) (by decide) (by decide))⟩, ?_, ?_, ?_, ?_, ?_⟩
  · unfold zyW
    rw [g 3 (by decide) (by decide) (by decide) (by decide) (by decide) (by decide) (by decide), g 35 (by decide) (by decide) (by decide) (by decide) (by decide) (by decide) (by decide)]
    exact zrr_up hW (by omega)
  · exact zyN_c hN (by omega) (by rw [g 0 (by decide) (by decide) (by decide) (by decide) (by decide) (by decide) (by decide)]) (g4 12 (by decide)) (g 21 (by decide) (by decide) (by decide) (by decide) (by decide) (by decide) (by decide)) (g 37 (by decide) (by decide) (by decide) (by decide) (by decide) (by decide) (by decide))
  · exact zyT_c hT (by rw [g 22 (by decide) (by decide) (by decide) (by decide) (by decide) (by decide) (by decide)]) (by rw [g 22 (by decide) (by decide) (by decide) (by decide) (by decide) (by decide) (by decide)]) (g 24 (by decide) (by decide) (by decide) (by decide) (by decide) (by decide) (by decide)) (g4 17 (by decide)) (g 41 (by decide) (by decide) (by decide) (by decide) (by decide) (by decide) (by decide))
  · exact zyE_c hE (by rw [g 0 (by decide) (by decide) (by decide) (by decide) (by decide) (by decide) (by decide)]) (g4 11 (by decide))
  · exact zyF_c hF (g 33 (by decide) (by decide) (by decide) (by decide) (by decide) (by decide) (by decide)) (g4 7 (by decide)) (g4 8 (by decide)) (g4 9 (by decide)) (g4 10 (by decide))
  · exact zyL_c hL (by rw [g 30 (by decide) (by decide) (by decide) (by decide) (by decide) (by decide) (by decide)]) (by rw [g 30 (by decide) (by decide) (by decide) (by decide) (by decide) (by decide) (by decide)]) (g 32 (by decide) (by decide) (by decide) (by decide) (by decide) (by decide) (by decide)) (g4 14 (by decide)) (g 40 (by decide) (by decide) (by decide) (by decide) (by decide) (by decide) (by decide))
/-- the past behind a change that is done -/
theorem zyP_ch {s t : az_S} {h p c : Nat} (H : zyP s h p c) (hW : zyW s h) {h2 : Nat} (hl : h ≤ h2) (e1 : t 17 1 = ((if p = 8 then 0 else p + 1 : Nat) : Int)) (e2 : t 17 2 = ((if c = 8 then 8 else c + 1 : Nat) : Int)) (e5 : t 34 5 = ((if c = 8 then 8 else c + 1 : Nat) : Int)) (e19 : t 19 = va_cpy (s 3) (s 19) 0 (p * 184) 184) (e38 : t 38 = zpast (s 38) (s 35) c) : zyP t h2 (if p = 8 then 0 else p + 1) (if c = 8 then 8 else c + 1) := by
  obtain ⟨a1, a2, a3, a4, a5, a6⟩ := H
  refine ⟨by split <;> omega, by split <;> omega, e1, e2, e5, fun i hi => ?_⟩
  rw [e19, e38]
  by_cases q : c = 8
  · subst q
    rw [if_pos rfl] at hi ⊢
    have hs : ((if p = 8 then 0 else p + 1) + 9 - 8 + i) % 9 = (p + 2 + i) % 9 := by split <;> omega
    rw [hs]
    by_cases q2 : i = 7
    · subst q2
      refine zrr_c (zrr_up hW hl) (fun j hj => ?_) (fun j hj => ?_)
      · unfold zpast va_cpy
        rw [if_pos rfl, if_pos rfl, if_pos (by omega), show 0 + (175 * 7 + j - 175 * 7) = j from by omega]
      · unfold va_cpy
        rw [if_pos (by omega)]
        congr 1
        omega
    · refine zrr_c (zrr_up (a6 (i + 1) (by omega)) hl) (fun j hj => ?_) (fun j hj => ?_)
      · unfold zpast va_cpy zsh7
        rw [if_pos rfl, if_pos rfl, if_neg (by omega), if_pos (by omega)]
        congr 1
        omega
      · unfold va_cpy
        rw [if_neg (by omega)]
        congr 1
        omega
  · rw [if_neg q] at hi ⊢
    have hs : ((if p = 8 then 0 else p + 1) + 9 - (c + 1) + i) % 9 = (p + 9 - c + i) % 9 := by split <;> omega
    rw [hs]
    by_cases q2 : i = c
    · subst q2
      refine zrr_c (zrr_up hW hl) (fun j hj => ?_) (fun j hj => ?_)
      · unfold zpast va_cpy
        rw [if_neg q, if_neg q, if_pos (by omega)]
        congr 1
        omega
      · unfold va_cpy
        rw [if_pos (by omega)]
        congr 1
        omega
    · refine zrr_c (zrr_up (a6 i (by omega)) hl) (fun j hj => ?_) (fun j hj => ?_)
      · unfold zpast va_cpy
        rw [if_neg q, if_neg q, if_neg (by omega)]
      · unfold va_cpy
        rw [if_neg (by omega)]
/-- the past behind a change that is not done -/
theorem zyP_no {s t : az_S} {h p c : Nat} (H : zyP s h p c) {h2 : Nat} (hl : h ≤ h2) (e1 : t 17 1 = s 17 1) (e2 : t 17 2 = s 17 2) (e5 : t 34 5 = s 34 5) {f : Nat → Int} (e19 : t 19 = va_cpy f (s 19) 0 (p * 184) 184) (e38 : t 38 = s 38) : zyP t h2 p c := by
  obtain ⟨a1, a2, a3, a4, a5, a6⟩ := H
  refine ⟨a1, a2, by rw [e1]; exact a3, by rw [e2]; exact a4, by rw [e5]; exact a5, fun i hi => ?_⟩
  rw [e19, e38]
  refine zrr_c (zrr_up (a6 i hi) hl) (fun j hj => rfl) (fun j hj => ?_)
  unfold va_cpy
  rw [if_neg (by omega)]
/-- a change -/
theorem zyS_ch {s t t2 : az_S} {h p c : Nat} {r : zQ} {w a : Int} (H : zyS s h) (hP : zyP s h p c) (h1 : zPc s t p c r) (h2 : zPm t t2 c r w a) (hI : zInv r.2.2.2 (h + 1)) (hJ : zJ r.2.2.2) (hk : zkr r) : zyS t2 (h + 10) := by
  obtain ⟨hW, _, hN, hT, hE, hF, hL⟩ := H
  obtain ⟨a1, a2, a3, a4, a5, a6, a7⟩ := h1
  obtain ⟨b1, b2, b3, b4, b5, b6, b7, b8⟩ := h2
  have g : ∀ i, i ≠ 3 → i ≠ 5 → i ≠ 17 → i ≠ 19 → i ≠ 33 → i ≠ 34 → i ≠ 35 → i ≠ 36 → i ≠ 38 → t2 i = s i := fun i q1 q2 q3 q4 q5 q6 q7 q8 q9 => by rw [b8 i q6 q7 q8 q9, a7 i q1 q2 q3 q4 q5]
  have g4 : ∀ j, j ≠ 5 → j ≠ 6 → j ≠ 7 → j ≠ 8 → j ≠ 9 → t2 34 j = s 34 j := fun j q1 q2 q3 q4 q5 => by rw [b7 j q1 q2 q3 q4 q5, a7 34 (by decide) (by decide) (by decide) (by decide) (by decide)]
  have t34 : t 34 = s 34 := a7 34 (by decide) (by decide) (by decide) (by decide) (by decide)
  have t38 : t 38 = s 38 := a7 38 (by decide) (by decide) (by decide) (by decide) (by decide)
  have t35 : t 35 = s 35 := a7 35 (by decide) (by decide) (by decide) (by decide) (by decide)
  have b17 : t2 17 = t 17 := b8 17 (by decide) (by decide) (by decide) (by decide)
  have b19 : t2 19 = t 19 := b8 19 (by decide) (by decide) (by decide) (by decide)
  have b33 : t2 33 = t 33 := b8 33 (by decide) (by decide) (by decide) (by decide)
  refine ⟨?_, ?_, ?_, ?_, ?_, ?_, ?_⟩
  · unfold zyW
    rw [b1, b8 3 (by decide) (by decide) (by decide) (by decide)]
    exact ⟨a1, zI_up hI (by omega), hJ⟩
  · by_cases q : r.1 = 0
    · exact ⟨_, _, zyP_ch hP hW (by omega) (by rw [b17]; exact (a2 q).1) (by rw [b17]; exact (a2 q).2) (b3 q).1 (by rw [b19]; exact a4) (by rw [(b3 q).2, t38, t35])⟩
    · exact ⟨p, c, zyP_no hP (by omega) (by rw [b17]; exact (a3 q).1) (by rw [b17]; exact (a3 q).2) (by rw [(b4 q).1, t34]) (by rw [b19]; exact a4) (by rw [(b4 q).2, t38])⟩
  · exact zyN_c hN (by omega) (by rw [g 0 (by decide) (by decide) (by decide) (by decide) (by decide) (by decide) (by decide) (by decide) (by decide)]) (g4 12 (by decide) (by decide) (by decide) (by decide) (by decide)) (g 21 (by decide) (by decide) (by decide) (by decide) (by decide) (by decide) (by decide) (by decide) (by decide)) (g 37 (by decide) (by decide) (by decide) (by decide) (by decide) (by decide) (by decide) (by decide) (by decide))
  · exact zyT_c hT (by rw [g 22 (by decide) (by decide) (by decide) (by decide) (by decide) (by decide) (by decide) (by decide) (by decide)]) (by rw [g 22 (by decide) (by decide) (by decide) (by decide) (by decide) (by decide) (by decide) (by decide) (by decide)]) (g 24 (by decide) (by decide) (by decide) (by decide) (by decide) (by decide) (by decide) (by decide) (by decide)) (g4 17 (by decide) (by decide) (by decide) (by decide) (by decide)) (g 41 (by decide) (by decide) (by decide) (by decide) (by decide) (by decide) (by decide) (by decide) (by decide))
  · exact zyE_c hE (by rw [g 0 (by decide) (by decide) (by decide) (by decide) (by decide) (by decide) (by decide) (by decide) (by decide)]) (g4 11 (by decide) (by decide) (by decide) (by decide) (by decide))
  · by_cases q : r.1 = 3
    · obtain ⟨c0, c1, c2, c3⟩ := a5 q
      obtain ⟨d7, d8, d9⟩ := b5 q
      have := hk.2 q
      unfold zyF
      rw [b33, c0, c1, c2, d7, d8, d9]
      exact ⟨rfl, rfl, rfl, fun w => absurd rfl w, by omega, by omega, by decide, by decide⟩
    · obtain ⟨d7, d8, d9⟩ := b6 q
      exact zyF_c hF (by rw [b33]; exact a6 q) (by rw [d7, t34]) (by rw [d8, t34]) (by rw [d9, t34]) (g4 10 (by decide) (by decide) (by decide) (by decide) (by decide))
  · exact zyL_c hL (by rw [g 30 (by decide) (by decide) (by decide) (by decide) (by decide) (by decide) (by decide) (by decide) (by decide)]) (by rw [g 30 (by decide) (by decide) (by decide) (by decide) (by decide) (by decide) (by decide) (by decide) (by decide)]) (g 32 (by decide) (by decide) (by decide) (by decide) (by decide) (by decide) (by decide) (by decide) (by decide)) (g4 14 (by decide) (by decide) (by decide) (by decide) (by decide)) (g 40 (by decide) (by decide) (by decide) (by decide) (by decide) (by decide) (by decide) (by decide) (by decide))
/-- the answer of a change -/
theorem zout_k {r : zQ} {k E : Nat} (hk : r.1 = k) (h : k = 1 ∧ E = 3 ∨ k = 2 ∧ E = 1 ∨ k = 3 ∧ E = 4) : zout r = .inr E := by
  unfold zout
  rw [hk]
  rcases h with ⟨rfl, rfl⟩ | ⟨rfl, rfl⟩ | ⟨rfl, rfl⟩ <;> rfl
theorem zMt_ch {es : List Nat} {r : zQ} {w a k : Int} (hk : zkr r) (e : k = (if r.1 = 3 then a else zth r.1 w)) (h1 : r.1 = 1 → ∃ j, es[j]? = some 3 ∧ (1 : Int) = ((j + 1 : Nat) : Int)) (h2 : r.1 = 2 → ∃ j, es[j]? = some 1 ∧ w = ((j + 1 : Nat) : Int)) (h3 : r.1 = 3 → ∃ j, es[j]? = some 4 ∧ a = ((j + 1 : Nat) : Int)) : zMt es (zout r) (.inl (some (az_i (if r.1 = 0 then r.2.1 else 0)))) k := by
  have h4 := hk.1
  have hc : r.1 = 0 ∨ r.1 = 1 ∨ r.1 = 2 ∨ r.1 = 3 := by omega
  rcases hc with q | q | q | q
  · refine Or.inl ⟨r.2.1, ?_, ?_, ?_⟩
    · unfold zout; rw [if_pos q]
    · rw [if_pos q]
    · rw [e, q]; rfl
  · obtain ⟨j, e1, e2⟩ := h1 q
    rw [zout_k (E := 3) q (by omega)]
    refine Or.inr ⟨j, 3, _, rfl, e1, rfl, ?_⟩
    rw [e, q, ← e2]; rfl
  · obtain ⟨j, e1, e2⟩ := h2 q
    rw [zout_k (E := 1) q (by omega)]
    refine Or.inr ⟨j, 1, _, rfl, e1, rfl, ?_⟩
    rw [e, q, ← e2]; rfl
  · obtain ⟨j, e1, e2⟩ := h3 q
    rw [zout_k (E := 4) q (by omega)]
    refine Or.inr ⟨j, 4, _, rfl, e1, rfl, ?_⟩
    rw [e, if_pos q, ← e2]
