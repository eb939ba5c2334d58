/-! CLASS, 10: typing, lines, accounts; written by program (wip/tools/zg/s10.py) -/
def zq_rf (a b : Int) (dt : Prop) [Decidable dt] : Nat × Int := if a = 0 then (1, 0) else (0, if dt then b else a)
def zq_wr (l : List Int) (i : Int) : Nat × Int := if 0 ≤ i ∧ i < l.length then (0, l.getD i.toNat 0) else (1, 0)
/-- an account: n signs typed, c changes that can be undone -/
def zq_ac (S : zR) (n c : Nat) (w : Int) : Nat × Int :=
  if ¬ (0 ≤ w ∧ w ≤ 14) then (1, 0)
  else (0, if w = 0 then zn S 0 else if w = 1 then zn S 1 else if w = 2 then zn S 2 else if w = 3 then S 3 else if w = 4 then zstr S else if w = 5 then zcd S else if w = 6 then zhl S else if w = 7 then zcf S else if w = 8 then S 5 else if w = 9 then zsg S 1 else if w = 10 then zst S 1 else if w = 11 then zchs S else if w = 12 then S 4 else if w = 13 then n else c)
/-- riddles hold for 48 hours at most -/
def zJ (S : zR) : Prop := ∀ t, t < 6 → zT S t 3 ≤ S 3 + 48
theorem zcr_hl {S : zR} {h : Nat} (hI : zInv S h) (hJ : zJ S) : zcr S 48 = zhl S := by
  have hn := zn_le hI
  unfold zcr zhl
  refine zs_ext (fun t ht => ?_)
  have hj := hJ t (by omega)
  have hd := zrh_d (S := S) (t := t)
  by_cases q : S 3 < zT S t 3
  · have := hd.1 q
    rw [az_b1 (by omega), az_b1 q]
  · have := hd.2 q
    rw [az_b0 (by omega), az_b0 q]
theorem zsg_4 {S : zR} {h : Nat} (hI : zInv S h) : zsg S 4 = S 4 := by
  have hn := zn_le hI
  have key : ∀ n, zn S 2 ≤ n → n ≤ 5 → zs n (fun g => zG S g 4) = zsg S 4 := by
    intro n
    induction n with
    | zero => intro h1 _; unfold zsg; rw [show zn S 2 = 0 from by omega]
    | succ n ih =>
      intro h1 h2
      by_cases q : zn S 2 = n + 1
      · unfold zsg; rw [q]
      · have hg := hI.2.2.2.2.1 n (by omega)
        unfold zIg at hg
        show zs n _ + zG S n 4 = _
        rw [ih (by omega) (by omega), (hg.2.2.2.2.2.2.2.2.2.2 (by omega)).2.2.2]
        omega
  rw [hI.2.2.2.2.2.2.2]
  exact (key 5 hn.2.2 (Nat.le_refl 5)).symm
/-- a sign more on the line -/
theorem zLn_ap {s : az_S} {l : List Int} {c : Int} (h : zLn s l) : zLn (am_up (am_up s 32 l.length c) 30 2 (((l.length : Nat) : Int) + 1)) (l ++ [c]) ∧ zFl s (am_up (am_up s 32 l.length c) 30 2 (((l.length : Nat) : Int) + 1)) := by
  obtain ⟨h1, h2, h3⟩ := h
  refine ⟨⟨by simp [am_up, h1], by simp [am_up], fun i hi => ?_⟩, fun i i1 i2 => ?_, by simp [am_up], by simp [am_up]⟩
  · simp only [List.length_append, List.length_cons, List.length_nil] at hi
    by_cases q : i = l.length
    · rw [q, List.getElem?_append_right (Nat.le_refl _), Nat.sub_self]
      simp [am_up]
    · rw [List.getElem?_append_left (by omega), h3 i (by omega)]
      simp [am_up, q]
  · funext j
    simp [am_up, i1, i2]
/-- the line of a bridge -/
def zline (S : zR) (b : Nat) : List Int := [48 + (b : Int), 58, 48 + zB S b 0, 48 + zB S b 1, 42, 48 + zB S b 2, 36, 48 + zB S b 3] ++ ((if 0 ≤ zat S b then [116, 48 + zat S b] else []) ++ ((if S 3 < zB S b 4 then [126] else []) ++ (if 0 ≤ zB S b 5 then [63] else [])))
def zq_tell (S : zR) (b : Int) : Nat × Int := if ¬ (0 ≤ b ∧ b < ((zn S 0 : Nat) : Int)) then (1, 0) else (0, (zline S b.toNat).length)
set_option maxRecDepth 100000 in
set_option maxHeartbeats 800000 in
theorem zs_X3_append_22y {d : Nat} {s : az_S} (hd : 1 ≤ d) {n : Nat} (h60 : s 22 1 = 60) (hl : s 22 2 = ((n : Nat) : Int)) {ch : Int} (hn : n < 60) : az_R d am_m_X3_append 0 (az_ini (am_mL am_m_X3_append) [az_r 22, az_i (ch)]) [] (s) (az_ret (some (az_i (1))) (am_up (am_up s 24 n (ch)) 22 2 (((n : Nat) : Int) + 1))) := by
  refine az_to 0 (pc2 := 0) (lv2 := [some (az_r 22), some (az_i (ch))]) (st2 := []) (s2 := s) rfl ?_
  refine az_to 2 (pc2 := 4) (lv2 := [some (az_r 22), some (az_i (ch))]) (st2 := [az_i (s 22 2)]) (s2 := s) rfl ?_
  refine az_to 0 (pc2 := 4) (lv2 := [some (az_r 22), some (az_i (ch))]) (st2 := [az_i (((n : Nat) : Int))]) (s2 := s) (by rw [show s 22 2 = ((n : Nat) : Int) from hl]; rfl) ?_
  refine az_to 2 (pc2 := 8) (lv2 := [some (az_r 22), some (az_i (ch))]) (st2 := [az_i (s 22 1), az_i (((n : Nat) : Int))]) (s2 := s) rfl ?_
  refine az_to 0 (pc2 := 8) (lv2 := [some (az_r 22), some (az_i (ch))]) (st2 := [az_i (60), az_i (((n : Nat) : Int))]) (s2 := s) (by rw [h60]; rfl) ?_
  refine az_if2 13 11 rfl (by decide) (by first | assumption | exact ⟨by omega, by omega⟩) ⟨by decide, by decide⟩ (fun h1 => ?_) (fun h1 => ?_)
  · have h1 : ((n : Nat) : Int) < 60 := h1
    refine az_to 4 (pc2 := 21) (lv2 := [some (az_r 22), some (az_i (ch))]) (st2 := [az_i (s 22 2), az_r 23]) (s2 := s) rfl ?_
    refine az_to 0 (pc2 := 21) (lv2 := [some (az_r 22), some (az_i (ch))]) (st2 := [az_i (((n : Nat) : Int)), az_r 23]) (s2 := s) (by rw [show s 22 2 = ((n : Nat) : Int) from hl]; rfl) ?_
    refine az_to 1 (pc2 := 22) (lv2 := [some (az_r 22), some (az_i (ch))]) (st2 := [az_i (ch), az_i (((n : Nat) : Int)), az_r 23]) (s2 := s) rfl ?_
    refine az_clv (v := none) (t := am_up s 24 n ch) (m2 := am_m_X5_put) (as := [az_r 23, az_i (((n : Nat) : Int)), az_i (ch)]) (rest := []) 25 rfl rfl ⟨rfl, rfl⟩ (by omega) (zs_X5_put_23 (s := s) (k := n) (v := ch) (by omega) (by omega)) ?_
    refine az_to 0 (pc2 := 25) (lv2 := [some (az_r 22), some (az_i (ch))]) (st2 := []) (s2 := am_up s 24 n ch) rfl ?_
    refine az_to 3 (pc2 := 30) (lv2 := [some (az_r 22), some (az_i (ch))]) (st2 := [az_i ((am_up s 24 n ch) 22 2), az_r 22]) (s2 := am_up s 24 n ch) rfl ?_
    refine az_to 0 (pc2 := 30) (lv2 := [some (az_r 22), some (az_i (ch))]) (st2 := [az_i (((n : Nat) : Int)), az_r 22]) (s2 := am_up s 24 n ch) (by rw [show (am_up s 24 n ch) 22 2 = ((n : Nat) : Int) from hl]; rfl) ?_
    refine az_to 4 (pc2 := 36) (lv2 := [some (az_r 22), some (az_i (ch))]) (st2 := [az_i (1)]) (s2 := am_up (am_up s 24 n ch) 22 2 ((((n : Nat) : Int) + 1))) rfl ?_
    refine az_retB rfl rfl (by first | decide | omega | exact Or.inl rfl | exact Or.inr rfl) ?_
    exact ⟨rfl, rfl⟩
  · have h1 : ¬ (((n : Nat) : Int) < 60) := h1
    exact absurd h1 (by omega)
set_option maxRecDepth 100000 in
set_option maxHeartbeats 800000 in
theorem zs_X3_append_22n {d : Nat} {s : az_S} (hd : 1 ≤ d) {n : Nat} (h60 : s 22 1 = 60) (hl : s 22 2 = ((n : Nat) : Int)) {ch : Int} (hn : n = 60) : az_R d am_m_X3_append 0 (az_ini (am_mL am_m_X3_append) [az_r 22, az_i (ch)]) [] (s) (az_ret (some (az_i (0))) (s)) := by
  refine az_to 0 (pc2 := 0) (lv2 := [some (az_r 22), some (az_i (ch))]) (st2 := []) (s2 := s) rfl ?_
  refine az_to 2 (pc2 := 4) (lv2 := [some (az_r 22), some (az_i (ch))]) (st2 := [az_i (s 22 2)]) (s2 := s) rfl ?_
  refine az_to 0 (pc2 := 4) (lv2 := [some (az_r 22), some (az_i (ch))]) (st2 := [az_i (((n : Nat) : Int))]) (s2 := s) (by rw [show s 22 2 = ((n : Nat) : Int) from hl]; rfl) ?_
  refine az_to 2 (pc2 := 8) (lv2 := [some (az_r 22), some (az_i (ch))]) (st2 := [az_i (s 22 1), az_i (((n : Nat) : Int))]) (s2 := s) rfl ?_
  refine az_to 0 (pc2 := 8) (lv2 := [some (az_r 22), some (az_i (ch))]) (st2 := [az_i (60), az_i (((n : Nat) : Int))]) (s2 := s) (by rw [h60]; rfl) ?_
  refine az_if2 13 11 rfl (by decide) (by first | assumption | exact ⟨by omega, by omega⟩) ⟨by decide, by decide⟩ (fun h1 => ?_) (fun h1 => ?_)
  · have h1 : ((n : Nat) : Int) < 60 := h1
    exact absurd h1 (by omega)
  · have h1 : ¬ (((n : Nat) : Int) < 60) := h1
    refine az_to 1 (pc2 := 12) (lv2 := [some (az_r 22), some (az_i (ch))]) (st2 := [az_i (0)]) (s2 := s) rfl ?_
    refine az_retB rfl rfl (by first | decide | omega | exact Or.inl rfl | exact Or.inr rfl) ?_
    exact ⟨rfl, rfl⟩
set_option maxRecDepth 100000 in
set_option maxHeartbeats 800000 in
theorem zs_X9_type_y {d : Nat} {s : az_S} (hd : 2 ≤ d) {n : Nat} (h60 : s 22 1 = 60) (hl : s 22 2 = ((n : Nat) : Int)) {ch : Int} (hn : n < 60) : az_R d am_m_X9_type 0 (az_ini (am_mL am_m_X9_type) [az_r 0, az_i (ch)]) [] (s) (fun o t => o = .inl (some (az_i ((n + 1 : Nat) : Int))) ∧ t = am_up (am_up s 24 n (ch)) 22 2 (((n : Nat) : Int) + 1)) := by
  refine az_to 0 (pc2 := 0) (lv2 := [some (az_r 0), some (az_i (ch))]) (st2 := []) (s2 := s) rfl ?_
  refine az_to 3 (pc2 := 5) (lv2 := [some (az_r 0), some (az_i (ch))]) (st2 := [az_i (ch), az_r 22]) (s2 := s) rfl ?_
  refine az_clv (v := some (az_i (1))) (t := am_up (am_up s 24 n (ch)) 22 2 (((n : Nat) : Int) + 1)) (m2 := am_m_X3_append) (as := [az_r 22, az_i (ch)]) (rest := []) 8 rfl rfl ⟨rfl, rfl⟩ (by omega) (zs_X3_append_22y (s := s) (ch := ch) (by omega) h60 hl hn) ?_
  refine az_to 0 (pc2 := 8) (lv2 := [some (az_r 0), some (az_i (ch))]) (st2 := [az_i (1)]) (s2 := am_up (am_up s 24 n (ch)) 22 2 (((n : Nat) : Int) + 1)) rfl ?_
  refine az_ifc 22 11 rfl (by decide) ⟨by decide, by decide⟩ (fun _ => ?_) (fun h => absurd (show az_cnd _ _ _ by unfold az_cnd; decide) h)
  refine az_to 2 (pc2 := 26) (lv2 := [some (az_r 0), some (az_i (ch))]) (st2 := [az_r 22]) (s2 := am_up (am_up s 24 n (ch)) 22 2 (((n : Nat) : Int) + 1)) rfl ?_
  refine az_clv (v := some (az_i ((am_up (am_up s 24 n (ch)) 22 2 (((n : Nat) : Int) + 1)) 22 2))) (t := am_up (am_up s 24 n (ch)) 22 2 (((n : Nat) : Int) + 1)) (m2 := am_m_X3_length) (as := [az_r 22]) (rest := []) 29 rfl rfl ⟨rfl, rfl⟩ (by omega) (zs_X3_length_22 (s := am_up (am_up s 24 n (ch)) 22 2 (((n : Nat) : Int) + 1))  (by omega) ) ?_
  refine az_to 0 (pc2 := 29) (lv2 := [some (az_r 0), some (az_i (ch))]) (st2 := [az_i ((am_up (am_up s 24 n (ch)) 22 2 (((n : Nat) : Int) + 1)) 22 2)]) (s2 := am_up (am_up s 24 n (ch)) 22 2 (((n : Nat) : Int) + 1)) rfl ?_
  refine az_retI rfl rfl ?_
  exact ⟨rfl, rfl⟩
set_option maxRecDepth 100000 in
set_option maxHeartbeats 800000 in
theorem zs_X9_type_n {d : Nat} {s : az_S} (hd : 2 ≤ d) {n : Nat} (h60 : s 22 1 = 60) (hl : s 22 2 = ((n : Nat) : Int)) {ch : Int} (hn : n = 60) : az_R d am_m_X9_type 0 (az_ini (am_mL am_m_X9_type) [az_r 0, az_i (ch)]) [] (s) (fun o t => o = .inr 2 ∧ t = s) := by
  refine az_to 0 (pc2 := 0) (lv2 := [some (az_r 0), some (az_i (ch))]) (st2 := []) (s2 := s) rfl ?_
  refine az_to 3 (pc2 := 5) (lv2 := [some (az_r 0), some (az_i (ch))]) (st2 := [az_i (ch), az_r 22]) (s2 := s) rfl ?_
  refine az_clv (v := some (az_i (0))) (t := s) (m2 := am_m_X3_append) (as := [az_r 22, az_i (ch)]) (rest := []) 8 rfl rfl ⟨rfl, rfl⟩ (by omega) (zs_X3_append_22n (s := s) (ch := ch) (by omega) h60 hl hn) ?_
  refine az_to 0 (pc2 := 8) (lv2 := [some (az_r 0), some (az_i (ch))]) (st2 := [az_i (0)]) (s2 := s) rfl ?_
  refine az_ifc 22 11 rfl (by decide) ⟨by decide, by decide⟩ (fun h => absurd h (by unfold az_cnd; decide)) (fun _ => ?_)
  refine az_thr (E := 2) rfl rfl rfl ?_
  exact ⟨rfl, rfl⟩
set_option maxRecDepth 100000 in
set_option maxHeartbeats 800000 in
theorem zs_X3_append_30 {d : Nat} {s : az_S} (hd : 1 ≤ d) {l : List Int} (hl : zLn s l) {ch : Int} (h16 : l.length < 16) : az_R d am_m_X3_append 0 (az_ini (am_mL am_m_X3_append) [az_r 30, az_i (ch)]) [] (s) (fun o t => o = .inl (some (az_i 1)) ∧ zLn t (l ++ [ch]) ∧ zFl s t) := by
  refine az_to 0 (pc2 := 0) (lv2 := [some (az_r 30), some (az_i (ch))]) (st2 := []) (s2 := s) rfl ?_
  refine az_to 2 (pc2 := 4) (lv2 := [some (az_r 30), some (az_i (ch))]) (st2 := [az_i (s 30 2)]) (s2 := s) rfl ?_
  refine az_to 0 (pc2 := 4) (lv2 := [some (az_r 30), some (az_i (ch))]) (st2 := [az_i (((l.length : Nat) : Int))]) (s2 := s) (by rw [show s 30 2 = ((l.length : Nat) : Int) from hl.2.1]; rfl) ?_
  refine az_to 2 (pc2 := 8) (lv2 := [some (az_r 30), some (az_i (ch))]) (st2 := [az_i (s 30 1), az_i (((l.length : Nat) : Int))]) (s2 := s) rfl ?_
  refine az_to 0 (pc2 := 8) (lv2 := [some (az_r 30), some (az_i (ch))]) (st2 := [az_i (16), az_i (((l.length : Nat) : Int))]) (s2 := s) (by rw [hl.1]; rfl) ?_
  refine az_if2 13 11 rfl (by decide) (by first | assumption | exact ⟨by omega, by omega⟩) ⟨by decide, by decide⟩ (fun h1 => ?_) (fun h1 => ?_)
  · have h1 : ((l.length : Nat) : Int) < 16 := h1
    refine az_to 4 (pc2 := 21) (lv2 := [some (az_r 30), some (az_i (ch))]) (st2 := [az_i (s 30 2), az_r 31]) (s2 := s) rfl ?_
    refine az_to 0 (pc2 := 21) (lv2 := [some (az_r 30), some (az_i (ch))]) (st2 := [az_i (((l.length : Nat) : Int)), az_r 31]) (s2 := s) (by rw [show s 30 2 = ((l.length : Nat) : Int) from hl.2.1]; rfl) ?_
    refine az_to 1 (pc2 := 22) (lv2 := [some (az_r 30), some (az_i (ch))]) (st2 := [az_i (ch), az_i (((l.length : Nat) : Int)), az_r 31]) (s2 := s) rfl ?_
    refine az_clv (v := none) (t := am_up s 32 l.length ch) (m2 := am_m_X5_put) (as := [az_r 31, az_i (((l.length : Nat) : Int)), az_i (ch)]) (rest := []) 25 rfl rfl ⟨rfl, rfl⟩ (by omega) (zs_X5_put_31 (s := s) (k := l.length) (v := ch) (by omega) (by omega)) ?_
    refine az_to 0 (pc2 := 25) (lv2 := [some (az_r 30), some (az_i (ch))]) (st2 := []) (s2 := am_up s 32 l.length ch) rfl ?_
    refine az_to 3 (pc2 := 30) (lv2 := [some (az_r 30), some (az_i (ch))]) (st2 := [az_i ((am_up s 32 l.length ch) 30 2), az_r 30]) (s2 := am_up s 32 l.length ch) rfl ?_
    refine az_to 0 (pc2 := 30) (lv2 := [some (az_r 30), some (az_i (ch))]) (st2 := [az_i (((l.length : Nat) : Int)), az_r 30]) (s2 := am_up s 32 l.length ch) (by rw [show (am_up s 32 l.length ch) 30 2 = ((l.length : Nat) : Int) from hl.2.1]; rfl) ?_
    refine az_to 4 (pc2 := 36) (lv2 := [some (az_r 30), some (az_i (ch))]) (st2 := [az_i (1)]) (s2 := am_up (am_up s 32 l.length ch) 30 2 ((((l.length : Nat) : Int) + 1))) rfl ?_
    refine az_retB rfl rfl (by first | decide | omega | exact Or.inl rfl | exact Or.inr rfl) ?_
    exact ⟨rfl, zLn_ap hl⟩
  · have h1 : ¬ (((l.length : Nat) : Int) < 16) := h1
    exact absurd h1 (by omega)
set_option maxRecDepth 100000 in
set_option maxHeartbeats 800000 in
theorem zs_X3_appendDigit_30 {d : Nat} {s : az_S} (hd : 2 ≤ d) {l : List Int} (hl : zLn s l) {dg : Int} (h16 : l.length < 16) (hdg : 0 ≤ dg ∧ dg ≤ 9) : az_R d am_m_X3_appendDigit 0 (az_ini (am_mL am_m_X3_appendDigit) [az_r 30, az_i (dg)]) [] (s) (fun o t => o = .inl none ∧ zLn t (l ++ [48 + dg]) ∧ zFl s t) := by
  refine az_to 0 (pc2 := 0) (lv2 := [some (az_r 30), some (az_i (dg))]) (st2 := []) (s2 := s) rfl ?_
  refine az_to 5 (pc2 := 6) (lv2 := [some (az_r 30), some (az_i (dg))]) (st2 := [az_i (((48 + dg) % 65536)), az_r 30]) (s2 := s) rfl ?_
  refine az_cl (m2 := am_m_X3_append) (as := [az_r 30, az_i (((48 + dg) % 65536))]) (rest := []) 9 rfl rfl ⟨rfl, rfl⟩ (by omega) (zs_X3_append_30 (s := s) (ch := (((48 + dg) % 65536))) (by omega) hl h16) (fun v1 t1 q1 => ?_) (fun E t1 q1 => by cases q1.1)
  obtain ⟨o1, hl1, hf1⟩ := q1
  cases o1
  refine az_to 0 (pc2 := 9) (lv2 := [some (az_r 30), some (az_i (dg))]) (st2 := [az_i (1)]) (s2 := t1) rfl ?_
  refine az_to 1 (pc2 := 10) (lv2 := [some (az_r 30), some (az_i (dg))]) (st2 := []) (s2 := t1) rfl ?_
  refine az_ret0 rfl rfl ?_
  have e : (48 + dg) % 65536 = 48 + dg := by omega
  rw [e] at hl1
  exact ⟨rfl, hl1, hf1⟩
set_option maxRecDepth 100000 in
set_option maxHeartbeats 800000 in
theorem zs_X3_signAt_30 {d : Nat} {s : az_S} (hd : 1 ≤ d) {l : List Int} (hl : zLn s l) {k : Nat} (hk : k < l.length) (h16 : l.length ≤ 16) (hr : 0 ≤ s 32 k ∧ s 32 k < 65536) : az_R d am_m_X3_signAt 0 (az_ini (am_mL am_m_X3_signAt) [az_r 30, az_i (((k : Nat) : Int))]) [] (s) (az_ret (some (az_i (s 32 k))) (s)) := by
  refine az_to 0 (pc2 := 0) (lv2 := [some (az_r 30), some (az_i (((k : Nat) : Int)))]) (st2 := []) (s2 := s) rfl ?_
  refine az_to 3 (pc2 := 5) (lv2 := [some (az_r 30), some (az_i (((k : Nat) : Int)))]) (st2 := [az_i (s 30 2), az_i (((k : Nat) : Int))]) (s2 := s) rfl ?_
  refine az_to 0 (pc2 := 5) (lv2 := [some (az_r 30), some (az_i (((k : Nat) : Int)))]) (st2 := [az_i (((l.length : Nat) : Int)), az_i (((k : Nat) : Int))]) (s2 := s) (by rw [show s 30 2 = ((l.length : Nat) : Int) from hl.2.1]; rfl) ?_
  refine az_if2 20 8 rfl (by decide) (by first | assumption | exact ⟨by omega, by omega⟩) (by first | assumption | exact ⟨by omega, by omega⟩) (fun h1 => ?_) (fun h1 => ?_)
  · have h1 : ((l.length : Nat) : Int) ≤ ((k : Nat) : Int) := h1
    exact absurd h1 (by omega)
  · have h1 : ¬ (((l.length : Nat) : Int) ≤ ((k : Nat) : Int)) := h1
    refine az_to 3 (pc2 := 13) (lv2 := [some (az_r 30), some (az_i (((k : Nat) : Int)))]) (st2 := [az_i (((k : Nat) : Int)), az_r 31]) (s2 := s) rfl ?_
    refine az_clv (v := some (az_i (s 32 k))) (t := s) (m2 := am_m_X5_at) (as := [az_r 31, az_i (((k : Nat) : Int))]) (rest := []) 16 rfl rfl ⟨rfl, rfl⟩ (by omega) (zs_X5_at_31 (s := s) (k := k) (by omega) (by omega)) ?_
    refine az_to 0 (pc2 := 16) (lv2 := [some (az_r 30), some (az_i (((k : Nat) : Int)))]) (st2 := [az_i (s 32 k)]) (s2 := s) rfl ?_
    refine az_to 2 (pc2 := 21) (lv2 := [some (az_r 30), some (az_i (((k : Nat) : Int)))]) (st2 := [az_i ((s 32 k % 65536))]) (s2 := s) rfl ?_
    refine az_retC rfl rfl (by constructor <;> omega) ?_
    exact ⟨by rw [show s 32 k % 65536 = s 32 k from by omega], rfl⟩
set_option maxRecDepth 100000 in
set_option maxHeartbeats 800000 in
theorem zs_X3_length_30l {d : Nat} {s : az_S} (hd : 0 ≤ d) {l : List Int} (hl : zLn s l) : az_R d am_m_X3_length 0 (az_ini (am_mL am_m_X3_length) [az_r 30]) [] (s) (az_ret (some (az_i (((l.length : Nat) : Int)))) (s)) := by
  refine az_to 0 (pc2 := 0) (lv2 := [some (az_r 30)]) (st2 := []) (s2 := s) rfl ?_
  refine az_to 2 (pc2 := 4) (lv2 := [some (az_r 30)]) (st2 := [az_i (s 30 2)]) (s2 := s) rfl ?_
  refine az_to 0 (pc2 := 4) (lv2 := [some (az_r 30)]) (st2 := [az_i (((l.length : Nat) : Int))]) (s2 := s) (by rw [show s 30 2 = ((l.length : Nat) : Int) from hl.2.1]; rfl) ?_
  refine az_retI rfl rfl ?_
  exact ⟨rfl, rfl⟩
set_option maxRecDepth 100000 in
set_option maxHeartbeats 800000 in
theorem zs_X9_account {d : Nat} {s : az_S} (hd : 4 ≤ d) {S : zR} {h : Nat} (hR : zRel (s 3) S) (hI : zInv S h) (hh : h ≤ 10000) {zw : Int} (h_zw : az_in zw) (hJ : zJ S) {n c : Nat} (hn : s 22 2 = ((n : Nat) : Int)) (hc : s 17 2 = ((c : Nat) : Int)) : az_R d am_m_X9_account 0 (az_ini (am_mL am_m_X9_account) [az_r 0, az_i (zw)]) [] (s) (fun o t => o = zoe [1] (zq_ac S n c zw) ∧ zFq s t) := by
  have hz := zI_h hI hh
  refine az_to 0 (pc2 := 0) (lv2 := [some (az_r 0), some (az_i (zw))]) (st2 := []) (s2 := s) rfl ?_
  refine az_to 1 (pc2 := 1) (lv2 := [some (az_r 0), some (az_i (zw))]) (st2 := [az_i (zw)]) (s2 := s) rfl ?_
  have h1 : (zw < 0 ∨ 14 < zw) ∨ zw = 0 ∨ zw = 1 ∨ zw = 2 ∨ zw = 3 ∨ zw = 4 ∨ zw = 5 ∨ zw = 6 ∨ zw = 7 ∨ zw = 8 ∨ zw = 9 ∨ zw = 10 ∨ zw = 11 ∨ zw = 12 ∨ zw = 13 ∨ zw = 14 := by omega
  rcases h1 with h1 | h1 | h1 | h1 | h1 | h1 | h1 | h1 | h1 | h1 | h1 | h1 | h1 | h1 | h1 | h1
  · refine az_swd 207 rfl (by first | assumption | exact ⟨by omega, by omega⟩) h1 (by decide) ?_
    refine az_thr (E := 1) rfl rfl rfl ?_
    have e : zq_ac S n c zw = (1, 0) := by
      simp only [zq_ac, Int.toNat_natCast]
      first | (rw [if_pos (by omega)]) | (rw [if_neg (by omega), if_pos (by omega)]) | (rw [if_neg (by omega), if_neg (by omega), if_pos (by omega)]) | (rw [if_neg (by omega), if_neg (by omega), if_neg (by omega), if_pos (by omega)])
    rw [e]
    exact ⟨rfl, zFq_r _⟩
  · refine az_swc 76 rfl (by first | assumption | exact ⟨by omega, by omega⟩) (by omega) (off := 75) (by rw [h1]; rfl) (by decide) ?_
    subst h1
    refine az_to 0 (pc2 := 76) (lv2 := [some (az_r 0), some (az_i (0))]) (st2 := []) (s2 := s) (rfl) ?_
    refine az_to 3 (pc2 := 81) (lv2 := [some (az_r 0), some (az_i (0))]) (st2 := [az_i (2), az_r 1]) (s2 := s) rfl ?_
    refine az_clv (v := some (az_i (((zn S 0 : Nat) : Int)))) (t := s) (m2 := am_m_X8_of) (as := [az_r 1, az_i (2)]) (rest := []) 84 rfl rfl ⟨rfl, rfl⟩ (by omega) (zs_X8_of_2 (s := s)  (by omega) hR hI hh) ?_
    refine az_to 0 (pc2 := 84) (lv2 := [some (az_r 0), some (az_i (0))]) (st2 := [az_i (((zn S 0 : Nat) : Int))]) (s2 := s) rfl ?_
    refine az_retI rfl rfl ?_
    have e : zq_ac S n c 0 = (0, ((zn S 0 : Nat) : Int)) := by
      simp only [zq_ac, Int.toNat_natCast]
      rw [if_neg (by omega)]
      first | rfl | (rw [zcr_hl hI hJ]; rfl) | (rw [zsg_4 hI]; rfl) | (rw [hn]; rfl) | (rw [hc]; rfl)
    rw [e]
    exact ⟨rfl, zFq_r _⟩
  · refine az_swc 85 rfl (by first | assumption | exact ⟨by omega, by omega⟩) (by omega) (off := 84) (by rw [h1]; rfl) (by decide) ?_
    subst h1
    refine az_to 0 (pc2 := 85) (lv2 := [some (az_r 0), some (az_i (1))]) (st2 := []) (s2 := s) (rfl) ?_
    refine az_to 3 (pc2 := 90) (lv2 := [some (az_r 0), some (az_i (1))]) (st2 := [az_i (3), az_r 1]) (s2 := s) rfl ?_
    refine az_clv (v := some (az_i (((zn S 1 : Nat) : Int)))) (t := s) (m2 := am_m_X8_of) (as := [az_r 1, az_i (3)]) (rest := []) 93 rfl rfl ⟨rfl, rfl⟩ (by omega) (zs_X8_of_3 (s := s)  (by omega) hR hI hh) ?_
    refine az_to 0 (pc2 := 93) (lv2 := [some (az_r 0), some (az_i (1))]) (st2 := [az_i (((zn S 1 : Nat) : Int))]) (s2 := s) rfl ?_
    refine az_retI rfl rfl ?_
    have e : zq_ac S n c 1 = (0, ((zn S 1 : Nat) : Int)) := by
      simp only [zq_ac, Int.toNat_natCast]
      rw [if_neg (by omega)]
      first | rfl | (rw [zcr_hl hI hJ]; rfl) | (rw [zsg_4 hI]; rfl) | (rw [hn]; rfl) | (rw [hc]; rfl)
    rw [e]
    exact ⟨rfl, zFq_r _⟩
  · refine az_swc 94 rfl (by first | assumption | exact ⟨by omega, by omega⟩) (by omega) (off := 93) (by rw [h1]; rfl) (by decide) ?_
    subst h1
    refine az_to 0 (pc2 := 94) (lv2 := [some (az_r 0), some (az_i (2))]) (st2 := []) (s2 := s) (rfl) ?_
    refine az_to 3 (pc2 := 99) (lv2 := [some (az_r 0), some (az_i (2))]) (st2 := [az_i (4), az_r 1]) (s2 := s) rfl ?_
    refine az_clv (v := some (az_i (((zn S 2 : Nat) : Int)))) (t := s) (m2 := am_m_X8_of) (as := [az_r 1, az_i (4)]) (rest := []) 102 rfl rfl ⟨rfl, rfl⟩ (by omega) (zs_X8_of_4 (s := s)  (by omega) hR hI hh) ?_
    refine az_to 0 (pc2 := 102) (lv2 := [some (az_r 0), some (az_i (2))]) (st2 := [az_i (((zn S 2 : Nat) : Int))]) (s2 := s) rfl ?_
    refine az_retI rfl rfl ?_
    have e : zq_ac S n c 2 = (0, ((zn S 2 : Nat) : Int)) := by
      simp only [zq_ac, Int.toNat_natCast]
      rw [if_neg (by omega)]
      first | rfl | (rw [zcr_hl hI hJ]; rfl) | (rw [zsg_4 hI]; rfl) | (rw [hn]; rfl) | (rw [hc]; rfl)
    rw [e]
    exact ⟨rfl, zFq_r _⟩
  · refine az_swc 103 rfl (by first | assumption | exact ⟨by omega, by omega⟩) (by omega) (off := 102) (by rw [h1]; rfl) (by decide) ?_
    subst h1
    refine az_to 0 (pc2 := 103) (lv2 := [some (az_r 0), some (az_i (3))]) (st2 := []) (s2 := s) (rfl) ?_
    refine az_to 3 (pc2 := 108) (lv2 := [some (az_r 0), some (az_i (3))]) (st2 := [az_i (0), az_r 1]) (s2 := s) rfl ?_
    refine az_clv (v := some (az_i (S 3))) (t := s) (m2 := am_m_X8_of) (as := [az_r 1, az_i (0)]) (rest := []) 111 rfl rfl ⟨rfl, rfl⟩ (by omega) (zs_X8_of_0 (s := s)  (by omega) hR hI hh) ?_
    refine az_to 0 (pc2 := 111) (lv2 := [some (az_r 0), some (az_i (3))]) (st2 := [az_i (S 3)]) (s2 := s) rfl ?_
    refine az_retI rfl rfl ?_
    have e : zq_ac S n c 3 = (0, S 3) := by
      simp only [zq_ac, Int.toNat_natCast]
      rw [if_neg (by omega)]
      first | rfl | (rw [zcr_hl hI hJ]; rfl) | (rw [zsg_4 hI]; rfl) | (rw [hn]; rfl) | (rw [hc]; rfl)
    rw [e]
    exact ⟨rfl, zFq_r _⟩
  · refine az_swc 112 rfl (by first | assumption | exact ⟨by omega, by omega⟩) (by omega) (off := 111) (by rw [h1]; rfl) (by decide) ?_
    subst h1
    refine az_to 0 (pc2 := 112) (lv2 := [some (az_r 0), some (az_i (4))]) (st2 := []) (s2 := s) (rfl) ?_
    refine az_to 3 (pc2 := 117) (lv2 := [some (az_r 0), some (az_i (4))]) (st2 := [az_i (2), az_r 1]) (s2 := s) rfl ?_
    refine az_clv (v := some (az_i (zsg S 2))) (t := s) (m2 := am_m_X8_sumOfGoats) (as := [az_r 1, az_i (2)]) (rest := []) 120 rfl rfl ⟨rfl, rfl⟩ (by omega) (zs_X8_sumOfGoats (s := s) (k0 := 2) (by omega) hR hI hh (by omega)) ?_
    refine az_to 0 (pc2 := 120) (lv2 := [some (az_r 0), some (az_i (4))]) (st2 := [az_i (zsg S 2)]) (s2 := s) rfl ?_
    refine az_retI rfl rfl ?_
    have e : zq_ac S n c 4 = (0, zsg S 2) := by
      simp only [zq_ac, Int.toNat_natCast]
      rw [if_neg (by omega)]
      first | rfl | (rw [zcr_hl hI hJ]; rfl) | (rw [zsg_4 hI]; rfl) | (rw [hn]; rfl) | (rw [hc]; rfl)
    rw [e]
    exact ⟨rfl, zFq_r _⟩
  · refine az_swc 121 rfl (by first | assumption | exact ⟨by omega, by omega⟩) (by omega) (off := 120) (by rw [h1]; rfl) (by decide) ?_
    subst h1
    refine az_to 0 (pc2 := 121) (lv2 := [some (az_r 0), some (az_i (5))]) (st2 := []) (s2 := s) (rfl) ?_
    refine az_to 2 (pc2 := 125) (lv2 := [some (az_r 0), some (az_i (5))]) (st2 := [az_r 1]) (s2 := s) rfl ?_
    refine az_clv (v := some (az_i (zcd S))) (t := s) (m2 := am_m_X8_countDisputes) (as := [az_r 1]) (rest := []) 128 rfl rfl ⟨rfl, rfl⟩ (by omega) (zs_X8_countDisputes (s := s)  (by omega) hR hI hh) ?_
    refine az_to 0 (pc2 := 128) (lv2 := [some (az_r 0), some (az_i (5))]) (st2 := [az_i (zcd S)]) (s2 := s) rfl ?_
    refine az_retI rfl rfl ?_
    have e : zq_ac S n c 5 = (0, zcd S) := by
      simp only [zq_ac, Int.toNat_natCast]
      rw [if_neg (by omega)]
      first | rfl | (rw [zcr_hl hI hJ]; rfl) | (rw [zsg_4 hI]; rfl) | (rw [hn]; rfl) | (rw [hc]; rfl)
    rw [e]
    exact ⟨rfl, zFq_r _⟩
  · refine az_swc 129 rfl (by first | assumption | exact ⟨by omega, by omega⟩) (by omega) (off := 128) (by rw [h1]; rfl) (by decide) ?_
    subst h1
    refine az_to 0 (pc2 := 129) (lv2 := [some (az_r 0), some (az_i (6))]) (st2 := []) (s2 := s) (rfl) ?_
    refine az_to 3 (pc2 := 135) (lv2 := [some (az_r 0), some (az_i (6))]) (st2 := [az_i (48), az_r 1]) (s2 := s) rfl ?_
    refine az_clv (v := some (az_i (zcr S 48))) (t := s) (m2 := am_m_X8_countRiddles) (as := [az_r 1, az_i (48)]) (rest := []) 138 rfl rfl ⟨rfl, rfl⟩ (by omega) (zs_X8_countRiddles (s := s) (n := 48) (by omega) hR hI hh ⟨by decide, by decide⟩) ?_
    refine az_to 0 (pc2 := 138) (lv2 := [some (az_r 0), some (az_i (6))]) (st2 := [az_i (zcr S 48)]) (s2 := s) rfl ?_
    refine az_retI rfl rfl ?_
    have e : zq_ac S n c 6 = (0, zcr S 48) := by
      simp only [zq_ac, Int.toNat_natCast]
      rw [if_neg (by omega)]
      first | rfl | (rw [zcr_hl hI hJ]; rfl) | (rw [zsg_4 hI]; rfl) | (rw [hn]; rfl) | (rw [hc]; rfl)
    rw [e]
    exact ⟨rfl, zFq_r _⟩
  · refine az_swc 139 rfl (by first | assumption | exact ⟨by omega, by omega⟩) (by omega) (off := 138) (by rw [h1]; rfl) (by decide) ?_
    subst h1
    refine az_to 0 (pc2 := 139) (lv2 := [some (az_r 0), some (az_i (7))]) (st2 := []) (s2 := s) (rfl) ?_
    refine az_to 2 (pc2 := 143) (lv2 := [some (az_r 0), some (az_i (7))]) (st2 := [az_r 1]) (s2 := s) rfl ?_
    refine az_clv (v := some (az_i (zcf S))) (t := s) (m2 := am_m_X8_countFogs) (as := [az_r 1]) (rest := []) 146 rfl rfl ⟨rfl, rfl⟩ (by omega) (zs_X8_countFogs (s := s)  (by omega) hR hI hh) ?_
    refine az_to 0 (pc2 := 146) (lv2 := [some (az_r 0), some (az_i (7))]) (st2 := [az_i (zcf S)]) (s2 := s) rfl ?_
    refine az_retI rfl rfl ?_
    have e : zq_ac S n c 7 = (0, zcf S) := by
      simp only [zq_ac, Int.toNat_natCast]
      rw [if_neg (by omega)]
      first | rfl | (rw [zcr_hl hI hJ]; rfl) | (rw [zsg_4 hI]; rfl) | (rw [hn]; rfl) | (rw [hc]; rfl)
    rw [e]
    exact ⟨rfl, zFq_r _⟩
  · refine az_swc 147 rfl (by first | assumption | exact ⟨by omega, by omega⟩) (by omega) (off := 146) (by rw [h1]; rfl) (by decide) ?_
    subst h1
    refine az_to 0 (pc2 := 147) (lv2 := [some (az_r 0), some (az_i (8))]) (st2 := []) (s2 := s) (rfl) ?_
    refine az_to 3 (pc2 := 152) (lv2 := [some (az_r 0), some (az_i (8))]) (st2 := [az_i (1), az_r 1]) (s2 := s) rfl ?_
    refine az_clv (v := some (az_i (S 5))) (t := s) (m2 := am_m_X8_of) (as := [az_r 1, az_i (1)]) (rest := []) 155 rfl rfl ⟨rfl, rfl⟩ (by omega) (zs_X8_of_1 (s := s)  (by omega) hR hI hh) ?_
    refine az_to 0 (pc2 := 155) (lv2 := [some (az_r 0), some (az_i (8))]) (st2 := [az_i (S 5)]) (s2 := s) rfl ?_
    refine az_retI rfl rfl ?_
    have e : zq_ac S n c 8 = (0, S 5) := by
      simp only [zq_ac, Int.toNat_natCast]
      rw [if_neg (by omega)]
      first | rfl | (rw [zcr_hl hI hJ]; rfl) | (rw [zsg_4 hI]; rfl) | (rw [hn]; rfl) | (rw [hc]; rfl)
    rw [e]
    exact ⟨rfl, zFq_r _⟩
  · refine az_swc 156 rfl (by first | assumption | exact ⟨by omega, by omega⟩) (by omega) (off := 155) (by rw [h1]; rfl) (by decide) ?_
    subst h1
    refine az_to 0 (pc2 := 156) (lv2 := [some (az_r 0), some (az_i (9))]) (st2 := []) (s2 := s) (rfl) ?_
    refine az_to 3 (pc2 := 161) (lv2 := [some (az_r 0), some (az_i (9))]) (st2 := [az_i (1), az_r 1]) (s2 := s) rfl ?_
    refine az_clv (v := some (az_i (zsg S 1))) (t := s) (m2 := am_m_X8_sumOfGoats) (as := [az_r 1, az_i (1)]) (rest := []) 164 rfl rfl ⟨rfl, rfl⟩ (by omega) (zs_X8_sumOfGoats (s := s) (k0 := 1) (by omega) hR hI hh (by omega)) ?_
    refine az_to 0 (pc2 := 164) (lv2 := [some (az_r 0), some (az_i (9))]) (st2 := [az_i (zsg S 1)]) (s2 := s) rfl ?_
    refine az_retI rfl rfl ?_
    have e : zq_ac S n c 9 = (0, zsg S 1) := by
      simp only [zq_ac, Int.toNat_natCast]
      rw [if_neg (by omega)]
      first | rfl | (rw [zcr_hl hI hJ]; rfl) | (rw [zsg_4 hI]; rfl) | (rw [hn]; rfl) | (rw [hc]; rfl)
    rw [e]
    exact ⟨rfl, zFq_r _⟩
  · refine az_swc 165 rfl (by first | assumption | exact ⟨by omega, by omega⟩) (by omega) (off := 164) (by rw [h1]; rfl) (by decide) ?_
    subst h1
    refine az_to 0 (pc2 := 165) (lv2 := [some (az_r 0), some (az_i (10))]) (st2 := []) (s2 := s) (rfl) ?_
    refine az_to 3 (pc2 := 170) (lv2 := [some (az_r 0), some (az_i (10))]) (st2 := [az_i (1), az_r 1]) (s2 := s) rfl ?_
    refine az_clv (v := some (az_i (zst S 1))) (t := s) (m2 := am_m_X8_sumOfTrolls) (as := [az_r 1, az_i (1)]) (rest := []) 173 rfl rfl ⟨rfl, rfl⟩ (by omega) (zs_X8_sumOfTrolls (s := s) (k0 := 1) (by omega) hR hI hh (by omega)) ?_
    refine az_to 0 (pc2 := 173) (lv2 := [some (az_r 0), some (az_i (10))]) (st2 := [az_i (zst S 1)]) (s2 := s) rfl ?_
    refine az_retI rfl rfl ?_
    have e : zq_ac S n c 10 = (0, zst S 1) := by
      simp only [zq_ac, Int.toNat_natCast]
      rw [if_neg (by omega)]
      first | rfl | (rw [zcr_hl hI hJ]; rfl) | (rw [zsg_4 hI]; rfl) | (rw [hn]; rfl) | (rw [hc]; rfl)
    rw [e]
    exact ⟨rfl, zFq_r _⟩
  · refine az_swc 174 rfl (by first | assumption | exact ⟨by omega, by omega⟩) (by omega) (off := 173) (by rw [h1]; rfl) (by decide) ?_
    subst h1
    refine az_to 0 (pc2 := 174) (lv2 := [some (az_r 0), some (az_i (11))]) (st2 := []) (s2 := s) (rfl) ?_
    refine az_to 2 (pc2 := 178) (lv2 := [some (az_r 0), some (az_i (11))]) (st2 := [az_r 1]) (s2 := s) rfl ?_
    refine az_clv (v := some (az_i (zchs S))) (t := s) (m2 := am_m_X8_coinsInChests) (as := [az_r 1]) (rest := []) 181 rfl rfl ⟨rfl, rfl⟩ (by omega) (zs_X8_coinsInChests (s := s)  (by omega) hR hI hh) ?_
    refine az_to 0 (pc2 := 181) (lv2 := [some (az_r 0), some (az_i (11))]) (st2 := [az_i (zchs S)]) (s2 := s) rfl ?_
    refine az_retI rfl rfl ?_
    have e : zq_ac S n c 11 = (0, zchs S) := by
      simp only [zq_ac, Int.toNat_natCast]
      rw [if_neg (by omega)]
      first | rfl | (rw [zcr_hl hI hJ]; rfl) | (rw [zsg_4 hI]; rfl) | (rw [hn]; rfl) | (rw [hc]; rfl)
    rw [e]
    exact ⟨rfl, zFq_r _⟩
  · refine az_swc 182 rfl (by first | assumption | exact ⟨by omega, by omega⟩) (by omega) (off := 181) (by rw [h1]; rfl) (by decide) ?_
    subst h1
    refine az_to 0 (pc2 := 182) (lv2 := [some (az_r 0), some (az_i (12))]) (st2 := []) (s2 := s) (rfl) ?_
    refine az_to 3 (pc2 := 187) (lv2 := [some (az_r 0), some (az_i (12))]) (st2 := [az_i (4), az_r 1]) (s2 := s) rfl ?_
    refine az_clv (v := some (az_i (zsg S 4))) (t := s) (m2 := am_m_X8_sumOfGoats) (as := [az_r 1, az_i (4)]) (rest := []) 190 rfl rfl ⟨rfl, rfl⟩ (by omega) (zs_X8_sumOfGoats (s := s) (k0 := 4) (by omega) hR hI hh (by omega)) ?_
    refine az_to 0 (pc2 := 190) (lv2 := [some (az_r 0), some (az_i (12))]) (st2 := [az_i (zsg S 4)]) (s2 := s) rfl ?_
    refine az_retI rfl rfl ?_
    have e : zq_ac S n c 12 = (0, zsg S 4) := by
      simp only [zq_ac, Int.toNat_natCast]
      rw [if_neg (by omega)]
      first | rfl | (rw [zcr_hl hI hJ]; rfl) | (rw [zsg_4 hI]; rfl) | (rw [hn]; rfl) | (rw [hc]; rfl)
    rw [e]
    exact ⟨rfl, zFq_r _⟩
  · refine az_swc 191 rfl (by first | assumption | exact ⟨by omega, by omega⟩) (by omega) (off := 190) (by rw [h1]; rfl) (by decide) ?_
    subst h1
    refine az_to 0 (pc2 := 191) (lv2 := [some (az_r 0), some (az_i (13))]) (st2 := []) (s2 := s) (rfl) ?_
    refine az_to 2 (pc2 := 195) (lv2 := [some (az_r 0), some (az_i (13))]) (st2 := [az_r 22]) (s2 := s) rfl ?_
    refine az_clv (v := some (az_i (s 22 2))) (t := s) (m2 := am_m_X3_length) (as := [az_r 22]) (rest := []) 198 rfl rfl ⟨rfl, rfl⟩ (by omega) (zs_X3_length_22 (s := s)  (by omega) ) ?_
    refine az_to 0 (pc2 := 198) (lv2 := [some (az_r 0), some (az_i (13))]) (st2 := [az_i (s 22 2)]) (s2 := s) rfl ?_
    refine az_retI rfl rfl ?_
    have e : zq_ac S n c 13 = (0, s 22 2) := by
      simp only [zq_ac, Int.toNat_natCast]
      rw [if_neg (by omega)]
      first | rfl | (rw [zcr_hl hI hJ]; rfl) | (rw [zsg_4 hI]; rfl) | (rw [hn]; rfl) | (rw [hc]; rfl)
    rw [e]
    exact ⟨rfl, zFq_r _⟩
  · refine az_swc 199 rfl (by first | assumption | exact ⟨by omega, by omega⟩) (by omega) (off := 198) (by rw [h1]; rfl) (by decide) ?_
    subst h1
    refine az_to 0 (pc2 := 199) (lv2 := [some (az_r 0), some (az_i (14))]) (st2 := []) (s2 := s) (rfl) ?_
    refine az_to 2 (pc2 := 203) (lv2 := [some (az_r 0), some (az_i (14))]) (st2 := [az_r 17]) (s2 := s) rfl ?_
    refine az_clv (v := some (az_i (s 17 2))) (t := s) (m2 := am_m_X2_count) (as := [az_r 17]) (rest := []) 206 rfl rfl ⟨rfl, rfl⟩ (by omega) (zs_X2_count (s := s)  (by omega) ) ?_
    refine az_to 0 (pc2 := 206) (lv2 := [some (az_r 0), some (az_i (14))]) (st2 := [az_i (s 17 2)]) (s2 := s) rfl ?_
    refine az_retI rfl rfl ?_
    have e : zq_ac S n c 14 = (0, s 17 2) := by
      simp only [zq_ac, Int.toNat_natCast]
      rw [if_neg (by omega)]
      first | rfl | (rw [zcr_hl hI hJ]; rfl) | (rw [zsg_4 hI]; rfl) | (rw [hn]; rfl) | (rw [hc]; rfl)
    rw [e]
    exact ⟨rfl, zFq_r _⟩
set_option maxRecDepth 100000 in
set_option maxHeartbeats 800000 in
theorem zs_X2_stepBack_z {d : Nat} {s : az_S} (hd : 3 ≤ d) (hp : s 17 1 = 0) {c : Nat} (hc : s 17 2 = ((c + 1 : Nat) : Int)) (hc8 : c ≤ 8) : az_R d am_m_X2_stepBack 0 (az_ini (am_mL am_m_X2_stepBack) [az_r 17, az_r 1]) [] (s) (az_ret (none) (am_ur (am_up (am_up s 17 1 ((8 : Nat) : Int)) 17 2 (((c : Nat) : Int))) 3 (va_cpy (s 19) (s 3) (8 * 184) 0 184))) := by
  refine az_to 0 (pc2 := 0) (lv2 := [some (az_r 17), some (az_r 1)]) (st2 := []) (s2 := s) rfl ?_
  refine az_to 3 (pc2 := 5) (lv2 := [some (az_r 17), some (az_r 1)]) (st2 := [az_i (s 17 1), az_r 17]) (s2 := s) rfl ?_
  refine az_to 0 (pc2 := 5) (lv2 := [some (az_r 17), some (az_r 1)]) (st2 := [az_i (0), az_r 17]) (s2 := s) (by rw [show s 17 1 = (0 : Int) from hp]; rfl) ?_
  refine az_ifc 13 8 rfl (by decide) ⟨by decide, by decide⟩ (fun h => absurd h (by unfold az_cnd; decide)) (fun _ => ?_)
  refine az_to 6 (pc2 := 27) (lv2 := [some (az_r 17), some (az_r 1)]) (st2 := [az_i ((am_up s 17 1 (8)) 17 2), az_r 17]) (s2 := am_up s 17 1 (8)) rfl ?_
  refine az_to 0 (pc2 := 27) (lv2 := [some (az_r 17), some (az_r 1)]) (st2 := [az_i ((((c + 1) : Nat) : Int)), az_r 17]) (s2 := am_up s 17 1 (8)) (by rw [show (am_up s 17 1 (8)) 17 2 = ((c + 1 : Nat) : Int) from hc]; rfl) ?_
  refine az_to 2 (pc2 := 29) (lv2 := [some (az_r 17), some (az_r 1)]) (st2 := [az_i (((((c + 1) : Nat) : Int) - 1)), az_r 17]) (s2 := am_up s 17 1 (8)) rfl ?_
  refine az_to 0 (pc2 := 29) (lv2 := [some (az_r 17), some (az_r 1)]) (st2 := [az_i (((c : Nat) : Int)), az_r 17]) (s2 := am_up s 17 1 (8)) (by rw [show (((((c + 1) : Nat) : Int) - 1) : Int) = ((c : Nat) : Int) from by omega]; rfl) ?_
  refine az_to 1 (pc2 := 30) (lv2 := [some (az_r 17), some (az_r 1)]) (st2 := [az_i (0), az_i (((c : Nat) : Int)), az_r 17]) (s2 := am_up s 17 1 (8)) rfl ?_
  refine az_max 33 rfl rfl (by decide) (by first | assumption | exact ⟨by omega, by omega⟩) ⟨by decide, by decide⟩ ?_
  refine az_to 0 (pc2 := 33) (lv2 := [some (az_r 17), some (az_r 1)]) (st2 := [az_i (((c : Nat) : Int)), az_r 17]) (s2 := am_up s 17 1 (8)) (by rw [if_neg (by omega)]; rfl) ?_
  refine az_to 3 (pc2 := 38) (lv2 := [some (az_r 17), some (az_r 1)]) (st2 := [az_r 1, az_r 17]) (s2 := am_up (am_up s 17 1 (8)) 17 2 (((c : Nat) : Int))) rfl ?_
  refine az_clv (v := none) (t := am_ur (am_up (am_up s 17 1 (8)) 17 2 (((c : Nat) : Int))) 3 (va_cpy ((am_up (am_up s 17 1 (8)) 17 2 (((c : Nat) : Int))) 19) ((am_up (am_up s 17 1 (8)) 17 2 (((c : Nat) : Int))) 3) (8 * 184) 0 184)) (m2 := am_m_X2_takeBack) (as := [az_r 17, az_r 1]) (rest := []) 41 rfl rfl ⟨rfl, rfl⟩ (by omega) (zs_X2_takeBack (s := am_up (am_up s 17 1 (8)) 17 2 (((c : Nat) : Int))) (q := 8) (by omega) (by rfl) (by omega)) ?_
  refine az_to 0 (pc2 := 41) (lv2 := [some (az_r 17), some (az_r 1)]) (st2 := []) (s2 := am_ur (am_up (am_up s 17 1 (8)) 17 2 (((c : Nat) : Int))) 3 (va_cpy ((am_up (am_up s 17 1 (8)) 17 2 (((c : Nat) : Int))) 19) ((am_up (am_up s 17 1 (8)) 17 2 (((c : Nat) : Int))) 3) (8 * 184) 0 184)) rfl ?_
  refine az_ret0 rfl rfl ?_
  exact ⟨rfl, rfl⟩
set_option maxRecDepth 100000 in
set_option maxHeartbeats 800000 in
theorem zs_X9_undo_z {d : Nat} {s : az_S} (hd : 4 ≤ d) (hp : s 17 1 = 0) {c : Nat} (hc : s 17 2 = ((c + 1 : Nat) : Int)) (hc8 : c ≤ 8) : az_R d am_m_X9_undo 0 (az_ini (am_mL am_m_X9_undo) [az_r 0]) [] (s) (fun o t => o = .inl (some (az_i ((c : Nat) : Int))) ∧ t = am_ur (am_up (am_up s 17 1 ((8 : Nat) : Int)) 17 2 (((c : Nat) : Int))) 3 (va_cpy (s 19) (s 3) (8 * 184) 0 184)) := by
  refine az_to 0 (pc2 := 0) (lv2 := [some (az_r 0)]) (st2 := []) (s2 := s) rfl ?_
  refine az_to 2 (pc2 := 4) (lv2 := [some (az_r 0)]) (st2 := [az_r 17]) (s2 := s) rfl ?_
  refine az_clv (v := some (az_i (s 17 2))) (t := s) (m2 := am_m_X2_count) (as := [az_r 17]) (rest := []) 7 rfl rfl ⟨rfl, rfl⟩ (by omega) (zs_X2_count (s := s)  (by omega) ) ?_
  refine az_to 0 (pc2 := 7) (lv2 := [some (az_r 0)]) (st2 := [az_i (s 17 2)]) (s2 := s) rfl ?_
  refine az_to 0 (pc2 := 7) (lv2 := [some (az_r 0)]) (st2 := [az_i ((((c + 1) : Nat) : Int))]) (s2 := s) (by rw [hc]; rfl) ?_
  refine az_ifc 21 10 rfl (by decide) (by first | assumption | exact ⟨by omega, by omega⟩) (fun h1 => ?_) (fun h1 => ?_)
  · have h1 : ¬ (((c + 1) : Nat) : Int) = 0 := h1
    refine az_to 4 (pc2 := 29) (lv2 := [some (az_r 0)]) (st2 := [az_r 1, az_r 17]) (s2 := s) rfl ?_
    refine az_clv (v := none) (t := am_ur (am_up (am_up s 17 1 ((8 : Nat) : Int)) 17 2 (((c : Nat) : Int))) 3 (va_cpy (s 19) (s 3) (8 * 184) 0 184)) (m2 := am_m_X2_stepBack) (as := [az_r 17, az_r 1]) (rest := []) 32 rfl rfl ⟨rfl, rfl⟩ (by omega) (zs_X2_stepBack_z (s := s)  (by omega) hp hc hc8) ?_
    refine az_to 0 (pc2 := 32) (lv2 := [some (az_r 0)]) (st2 := []) (s2 := am_ur (am_up (am_up s 17 1 ((8 : Nat) : Int)) 17 2 (((c : Nat) : Int))) 3 (va_cpy (s 19) (s 3) (8 * 184) 0 184)) rfl ?_
    refine az_to 2 (pc2 := 36) (lv2 := [some (az_r 0)]) (st2 := [az_r 17]) (s2 := am_ur (am_up (am_up s 17 1 ((8 : Nat) : Int)) 17 2 (((c : Nat) : Int))) 3 (va_cpy (s 19) (s 3) (8 * 184) 0 184)) rfl ?_
    refine az_clv (v := some (az_i ((am_ur (am_up (am_up s 17 1 ((8 : Nat) : Int)) 17 2 (((c : Nat) : Int))) 3 (va_cpy (s 19) (s 3) (8 * 184) 0 184)) 17 2))) (t := am_ur (am_up (am_up s 17 1 ((8 : Nat) : Int)) 17 2 (((c : Nat) : Int))) 3 (va_cpy (s 19) (s 3) (8 * 184) 0 184)) (m2 := am_m_X2_count) (as := [az_r 17]) (rest := []) 39 rfl rfl ⟨rfl, rfl⟩ (by omega) (zs_X2_count (s := am_ur (am_up (am_up s 17 1 ((8 : Nat) : Int)) 17 2 (((c : Nat) : Int))) 3 (va_cpy (s 19) (s 3) (8 * 184) 0 184))  (by omega) ) ?_
    refine az_to 0 (pc2 := 39) (lv2 := [some (az_r 0)]) (st2 := [az_i ((am_ur (am_up (am_up s 17 1 ((8 : Nat) : Int)) 17 2 (((c : Nat) : Int))) 3 (va_cpy (s 19) (s 3) (8 * 184) 0 184)) 17 2)]) (s2 := am_ur (am_up (am_up s 17 1 ((8 : Nat) : Int)) 17 2 (((c : Nat) : Int))) 3 (va_cpy (s 19) (s 3) (8 * 184) 0 184)) rfl ?_
    refine az_retI rfl rfl ?_
    exact ⟨rfl, rfl⟩
  · have h1 : (((c + 1) : Nat) : Int) = 0 := Decidable.not_not.mp h1
    exact absurd h1 (by omega)
set_option maxRecDepth 100000 in
set_option maxHeartbeats 800000 in
theorem zs_X2_stepBack_p {d : Nat} {s : az_S} (hd : 3 ≤ d) {q : Nat} (hp : s 17 1 = ((q + 1 : Nat) : Int)) (hq : q < 8) {c : Nat} (hc : s 17 2 = ((c + 1 : Nat) : Int)) (hc8 : c ≤ 8) : az_R d am_m_X2_stepBack 0 (az_ini (am_mL am_m_X2_stepBack) [az_r 17, az_r 1]) [] (s) (az_ret (none) (am_ur (am_up (am_up s 17 1 ((q : Nat) : Int)) 17 2 (((c : Nat) : Int))) 3 (va_cpy (s 19) (s 3) (q * 184) 0 184))) := by
  refine az_to 0 (pc2 := 0) (lv2 := [some (az_r 17), some (az_r 1)]) (st2 := []) (s2 := s) rfl ?_
  refine az_to 3 (pc2 := 5) (lv2 := [some (az_r 17), some (az_r 1)]) (st2 := [az_i (s 17 1), az_r 17]) (s2 := s) rfl ?_
  refine az_to 0 (pc2 := 5) (lv2 := [some (az_r 17), some (az_r 1)]) (st2 := [az_i ((((q + 1) : Nat) : Int)), az_r 17]) (s2 := s) (by rw [show s 17 1 = ((((q + 1) : Nat) : Int) : Int) from hp]; rfl) ?_
  refine az_ifc 13 8 rfl (by decide) (by first | assumption | exact ⟨by omega, by omega⟩) (fun h1 => ?_) (fun h1 => ?_)
  · have h1 : ¬ (((q + 1) : Nat) : Int) = 0 := h1
    refine az_to 2 (pc2 := 17) (lv2 := [some (az_r 17), some (az_r 1)]) (st2 := [az_i (s 17 1), az_r 17]) (s2 := s) rfl ?_
    refine az_to 0 (pc2 := 17) (lv2 := [some (az_r 17), some (az_r 1)]) (st2 := [az_i ((((q + 1) : Nat) : Int)), az_r 17]) (s2 := s) (by rw [show s 17 1 = ((((q + 1) : Nat) : Int) : Int) from hp]; rfl) ?_
    refine az_to 2 (pc2 := 19) (lv2 := [some (az_r 17), some (az_r 1)]) (st2 := [az_i (((((q + 1) : Nat) : Int) - 1)), az_r 17]) (s2 := s) rfl ?_
    refine az_to 0 (pc2 := 19) (lv2 := [some (az_r 17), some (az_r 1)]) (st2 := [az_i (((q : Nat) : Int)), az_r 17]) (s2 := s) (by rw [show (((((q + 1) : Nat) : Int) - 1) : Int) = ((q : Nat) : Int) from by omega]; rfl) ?_
    refine az_to 4 (pc2 := 27) (lv2 := [some (az_r 17), some (az_r 1)]) (st2 := [az_i ((am_up s 17 1 (((q : Nat) : Int))) 17 2), az_r 17]) (s2 := am_up s 17 1 (((q : Nat) : Int))) rfl ?_
    refine az_to 0 (pc2 := 27) (lv2 := [some (az_r 17), some (az_r 1)]) (st2 := [az_i ((((c + 1) : Nat) : Int)), az_r 17]) (s2 := am_up s 17 1 (((q : Nat) : Int))) (by rw [show (am_up s 17 1 (((q : Nat) : Int))) 17 2 = ((c + 1 : Nat) : Int) from hc]; rfl) ?_
    refine az_to 2 (pc2 := 29) (lv2 := [some (az_r 17), some (az_r 1)]) (st2 := [az_i (((((c + 1) : Nat) : Int) - 1)), az_r 17]) (s2 := am_up s 17 1 (((q : Nat) : Int))) rfl ?_
    refine az_to 0 (pc2 := 29) (lv2 := [some (az_r 17), some (az_r 1)]) (st2 := [az_i (((c : Nat) : Int)), az_r 17]) (s2 := am_up s 17 1 (((q : Nat) : Int))) (by rw [show (((((c + 1) : Nat) : Int) - 1) : Int) = ((c : Nat) : Int) from by omega]; rfl) ?_
    refine az_to 1 (pc2 := 30) (lv2 := [some (az_r 17), some (az_r 1)]) (st2 := [az_i (0), az_i (((c : Nat) : Int)), az_r 17]) (s2 := am_up s 17 1 (((q : Nat) : Int))) rfl ?_
    refine az_max 33 rfl rfl (by decide) (by first | assumption | exact ⟨by omega, by omega⟩) ⟨by decide, by decide⟩ ?_
    refine az_to 0 (pc2 := 33) (lv2 := [some (az_r 17), some (az_r 1)]) (st2 := [az_i (((c : Nat) : Int)), az_r 17]) (s2 := am_up s 17 1 (((q : Nat) : Int))) (by rw [if_neg (by omega)]; rfl) ?_
    refine az_to 3 (pc2 := 38) (lv2 := [some (az_r 17), some (az_r 1)]) (st2 := [az_r 1, az_r 17]) (s2 := am_up (am_up s 17 1 (((q : Nat) : Int))) 17 2 (((c : Nat) : Int))) rfl ?_
    refine az_clv (v := none) (t := am_ur (am_up (am_up s 17 1 (((q : Nat) : Int))) 17 2 (((c : Nat) : Int))) 3 (va_cpy ((am_up (am_up s 17 1 (((q : Nat) : Int))) 17 2 (((c : Nat) : Int))) 19) ((am_up (am_up s 17 1 (((q : Nat) : Int))) 17 2 (((c : Nat) : Int))) 3) (q * 184) 0 184)) (m2 := am_m_X2_takeBack) (as := [az_r 17, az_r 1]) (rest := []) 41 rfl rfl ⟨rfl, rfl⟩ (by omega) (zs_X2_takeBack (s := am_up (am_up s 17 1 (((q : Nat) : Int))) 17 2 (((c : Nat) : Int))) (q := q) (by omega) (by rfl) (by omega)) ?_
    refine az_to 0 (pc2 := 41) (lv2 := [some (az_r 17), some (az_r 1)]) (st2 := []) (s2 := am_ur (am_up (am_up s 17 1 (((q : Nat) : Int))) 17 2 (((c : Nat) : Int))) 3 (va_cpy ((am_up (am_up s 17 1 (((q : Nat) : Int))) 17 2 (((c : Nat) : Int))) 19) ((am_up (am_up s 17 1 (((q : Nat) : Int))) 17 2 (((c : Nat) : Int))) 3) (q * 184) 0 184)) rfl ?_
    refine az_ret0 rfl rfl ?_
    exact ⟨rfl, rfl⟩
  · have h1 : (((q + 1) : Nat) : Int) = 0 := Decidable.not_not.mp h1
    exact absurd h1 (by omega)
set_option maxRecDepth 100000 in
set_option maxHeartbeats 800000 in
theorem zs_X9_undo_p {d : Nat} {s : az_S} (hd : 4 ≤ d) {q : Nat} (hp : s 17 1 = ((q + 1 : Nat) : Int)) (hq : q < 8) {c : Nat} (hc : s 17 2 = ((c + 1 : Nat) : Int)) (hc8 : c ≤ 8) : az_R d am_m_X9_undo 0 (az_ini (am_mL am_m_X9_undo) [az_r 0]) [] (s) (fun o t => o = .inl (some (az_i ((c : Nat) : Int))) ∧ t = am_ur (am_up (am_up s 17 1 ((q : Nat) : Int)) 17 2 (((c : Nat) : Int))) 3 (va_cpy (s 19) (s 3) (q * 184) 0 184)) := by
  refine az_to 0 (pc2 := 0) (lv2 := [some (az_r 0)]) (st2 := []) (s2 := s) rfl ?_
  refine az_to 2 (pc2 := 4) (lv2 := [some (az_r 0)]) (st2 := [az_r 17]) (s2 := s) rfl ?_
  refine az_clv (v := some (az_i (s 17 2))) (t := s) (m2 := am_m_X2_count) (as := [az_r 17]) (rest := []) 7 rfl rfl ⟨rfl, rfl⟩ (by omega) (zs_X2_count (s := s)  (by omega) ) ?_
  refine az_to 0 (pc2 := 7) (lv2 := [some (az_r 0)]) (st2 := [az_i (s 17 2)]) (s2 := s) rfl ?_
  refine az_to 0 (pc2 := 7) (lv2 := [some (az_r 0)]) (st2 := [az_i ((((c + 1) : Nat) : Int))]) (s2 := s) (by rw [hc]; rfl) ?_
  refine az_ifc 21 10 rfl (by decide) (by first | assumption | exact ⟨by omega, by omega⟩) (fun h1 => ?_) (fun h1 => ?_)
  · have h1 : ¬ (((c + 1) : Nat) : Int) = 0 := h1
    refine az_to 4 (pc2 := 29) (lv2 := [some (az_r 0)]) (st2 := [az_r 1, az_r 17]) (s2 := s) rfl ?_
    refine az_clv (v := none) (t := am_ur (am_up (am_up s 17 1 ((q : Nat) : Int)) 17 2 (((c : Nat) : Int))) 3 (va_cpy (s 19) (s 3) (q * 184) 0 184)) (m2 := am_m_X2_stepBack) (as := [az_r 17, az_r 1]) (rest := []) 32 rfl rfl ⟨rfl, rfl⟩ (by omega) (zs_X2_stepBack_p (s := s)  (by omega) hp hq hc hc8) ?_
    refine az_to 0 (pc2 := 32) (lv2 := [some (az_r 0)]) (st2 := []) (s2 := am_ur (am_up (am_up s 17 1 ((q : Nat) : Int)) 17 2 (((c : Nat) : Int))) 3 (va_cpy (s 19) (s 3) (q * 184) 0 184)) rfl ?_
    refine az_to 2 (pc2 := 36) (lv2 := [some (az_r 0)]) (st2 := [az_r 17]) (s2 := am_ur (am_up (am_up s 17 1 ((q : Nat) : Int)) 17 2 (((c : Nat) : Int))) 3 (va_cpy (s 19) (s 3) (q * 184) 0 184)) rfl ?_
    refine az_clv (v := some (az_i ((am_ur (am_up (am_up s 17 1 ((q : Nat) : Int)) 17 2 (((c : Nat) : Int))) 3 (va_cpy (s 19) (s 3) (q * 184) 0 184)) 17 2))) (t := am_ur (am_up (am_up s 17 1 ((q : Nat) : Int)) 17 2 (((c : Nat) : Int))) 3 (va_cpy (s 19) (s 3) (q * 184) 0 184)) (m2 := am_m_X2_count) (as := [az_r 17]) (rest := []) 39 rfl rfl ⟨rfl, rfl⟩ (by omega) (zs_X2_count (s := am_ur (am_up (am_up s 17 1 ((q : Nat) : Int)) 17 2 (((c : Nat) : Int))) 3 (va_cpy (s 19) (s 3) (q * 184) 0 184))  (by omega) ) ?_
    refine az_to 0 (pc2 := 39) (lv2 := [some (az_r 0)]) (st2 := [az_i ((am_ur (am_up (am_up s 17 1 ((q : Nat) : Int)) 17 2 (((c : Nat) : Int))) 3 (va_cpy (s 19) (s 3) (q * 184) 0 184)) 17 2)]) (s2 := am_ur (am_up (am_up s 17 1 ((q : Nat) : Int)) 17 2 (((c : Nat) : Int))) 3 (va_cpy (s 19) (s 3) (q * 184) 0 184)) rfl ?_
    refine az_retI rfl rfl ?_
    exact ⟨rfl, rfl⟩
  · have h1 : (((c + 1) : Nat) : Int) = 0 := Decidable.not_not.mp h1
    exact absurd h1 (by omega)
set_option maxRecDepth 100000 in
set_option maxHeartbeats 800000 in
theorem zs_X9_undo_0 {d : Nat} {s : az_S} (hd : 4 ≤ d) (hc : s 17 2 = 0) : az_R d am_m_X9_undo 0 (az_ini (am_mL am_m_X9_undo) [az_r 0]) [] (s) (fun o t => o = .inr 2 ∧ t = s) := by
  refine az_to 0 (pc2 := 0) (lv2 := [some (az_r 0)]) (st2 := []) (s2 := s) rfl ?_
  refine az_to 2 (pc2 := 4) (lv2 := [some (az_r 0)]) (st2 := [az_r 17]) (s2 := s) rfl ?_
  refine az_clv (v := some (az_i (s 17 2))) (t := s) (m2 := am_m_X2_count) (as := [az_r 17]) (rest := []) 7 rfl rfl ⟨rfl, rfl⟩ (by omega) (zs_X2_count (s := s)  (by omega) ) ?_
  refine az_to 0 (pc2 := 7) (lv2 := [some (az_r 0)]) (st2 := [az_i (s 17 2)]) (s2 := s) rfl ?_
  refine az_to 0 (pc2 := 7) (lv2 := [some (az_r 0)]) (st2 := [az_i (0)]) (s2 := s) (by rw [hc]; rfl) ?_
  refine az_ifc 21 10 rfl (by decide) ⟨by decide, by decide⟩ (fun h => absurd h (by unfold az_cnd; decide)) (fun _ => ?_)
  refine az_thr (E := 2) rfl rfl rfl ?_
  exact ⟨rfl, rfl⟩
set_option maxRecDepth 100000 in
set_option maxHeartbeats 800000 in
theorem zs_X9_save {d : Nat} {s : az_S} (hd : 3 ≤ d) {S : zR} {h : Nat} (hR : zRel (s 3) S) (hI : zInv S h) (hh : h ≤ 10000) : az_R d am_m_X9_save 0 (az_ini (am_mL am_m_X9_save) [az_r 0]) [] (s) (fun o t => o = .inl (some (az_i ((zn S 0 : Nat) : Int))) ∧ t = am_up (am_ur s 21 (va_cpy (s 3) (s 21) 0 0 184)) 0 5 (1)) := by
  refine az_to 0 (pc2 := 0) (lv2 := [some (az_r 0)]) (st2 := []) (s2 := s) rfl ?_
  refine az_to 5 (pc2 := 9) (lv2 := [some (az_r 0)]) (st2 := [az_i (0), az_r 20, az_r 1]) (s2 := s) rfl ?_
  refine az_clv (v := none) (t := am_ur s 21 (va_cpy (s 3) (s 21) 0 0 184)) (m2 := am_m_X8_storeIn) (as := [az_r 1, az_r 20, az_i (0)]) (rest := []) 12 rfl rfl ⟨rfl, rfl⟩ (by omega) (zs_X8_storeIn_20 (s := s) (q := 0) (by omega) (by omega)) ?_
  refine az_to 0 (pc2 := 12) (lv2 := [some (az_r 0)]) (st2 := []) (s2 := am_ur s 21 (va_cpy (s 3) (s 21) 0 0 184)) rfl ?_
  refine az_to 6 (pc2 := 22) (lv2 := [some (az_r 0)]) (st2 := [az_i (2), az_r 1]) (s2 := am_up (am_ur s 21 (va_cpy (s 3) (s 21) 0 0 184)) 0 5 (1)) rfl ?_
  refine az_clv (v := some (az_i (((zn S 0 : Nat) : Int)))) (t := am_up (am_ur s 21 (va_cpy (s 3) (s 21) 0 0 184)) 0 5 (1)) (m2 := am_m_X8_of) (as := [az_r 1, az_i (2)]) (rest := []) 25 rfl rfl ⟨rfl, rfl⟩ (by omega) (zs_X8_of_2 (s := am_up (am_ur s 21 (va_cpy (s 3) (s 21) 0 0 184)) 0 5 (1))  (by omega) hR hI hh) ?_
  refine az_to 0 (pc2 := 25) (lv2 := [some (az_r 0)]) (st2 := [az_i (((zn S 0 : Nat) : Int))]) (s2 := am_up (am_ur s 21 (va_cpy (s 3) (s 21) 0 0 184)) 0 5 (1)) rfl ?_
  refine az_retI rfl rfl ?_
  exact ⟨rfl, rfl⟩
set_option maxRecDepth 100000 in
set_option maxHeartbeats 800000 in
theorem zs_X9_restore_n {d : Nat} {s : az_S} (hd : 3 ≤ d) (hk : s 0 5 = 0) : az_R d am_m_X9_restore 0 (az_ini (am_mL am_m_X9_restore) [az_r 0]) [] (s) (fun o t => o = .inr 2 ∧ t = s) := by
  refine az_to 0 (pc2 := 0) (lv2 := [some (az_r 0)]) (st2 := []) (s2 := s) rfl ?_
  refine az_to 2 (pc2 := 4) (lv2 := [some (az_r 0)]) (st2 := [az_i (s 0 5)]) (s2 := s) rfl ?_
  refine az_to 0 (pc2 := 4) (lv2 := [some (az_r 0)]) (st2 := [az_i (0)]) (s2 := s) (by rw [hk]; rfl) ?_
  refine az_ifc 18 7 rfl (by decide) ⟨by decide, by decide⟩ (fun h => absurd h (by unfold az_cnd; decide)) (fun _ => ?_)
  refine az_thr (E := 2) rfl rfl rfl ?_
  exact ⟨rfl, rfl⟩
set_option maxRecDepth 100000 in
set_option maxHeartbeats 800000 in
theorem zs_X9_restore_y {d : Nat} {s : az_S} (hd : 3 ≤ d) {S : zR} {h : Nat} (hR : zRel (va_cpy (s 21) (s 3) 0 0 184) S) (hI : zInv S h) (hh : h ≤ 10000) (hk : s 0 5 = 1) : az_R d am_m_X9_restore 0 (az_ini (am_mL am_m_X9_restore) [az_r 0]) [] (s) (fun o t => o = .inl (some (az_i ((zn S 0 : Nat) : Int))) ∧ t = am_up (am_ur s 3 (va_cpy (s 21) (s 3) 0 0 184)) 17 2 (0)) := by
  refine az_to 0 (pc2 := 0) (lv2 := [some (az_r 0)]) (st2 := []) (s2 := s) rfl ?_
  refine az_to 2 (pc2 := 4) (lv2 := [some (az_r 0)]) (st2 := [az_i (s 0 5)]) (s2 := s) rfl ?_
  refine az_to 0 (pc2 := 4) (lv2 := [some (az_r 0)]) (st2 := [az_i (1)]) (s2 := s) (by rw [hk]; rfl) ?_
  refine az_ifc 18 7 rfl (by decide) ⟨by decide, by decide⟩ (fun _ => ?_) (fun h => absurd (show az_cnd _ _ _ by unfold az_cnd; decide) h)
  refine az_to 5 (pc2 := 27) (lv2 := [some (az_r 0)]) (st2 := [az_i (0), az_r 20, az_r 1]) (s2 := s) rfl ?_
  refine az_clv (v := none) (t := am_ur s 3 (va_cpy (s 21) (s 3) 0 0 184)) (m2 := am_m_X8_loadFrom) (as := [az_r 1, az_r 20, az_i (0)]) (rest := []) 30 rfl rfl ⟨rfl, rfl⟩ (by omega) (zs_X8_loadFrom_20 (s := s) (q := 0) (by omega) (by omega)) ?_
  refine az_to 0 (pc2 := 30) (lv2 := [some (az_r 0)]) (st2 := []) (s2 := am_ur s 3 (va_cpy (s 21) (s 3) 0 0 184)) rfl ?_
  refine az_to 2 (pc2 := 34) (lv2 := [some (az_r 0)]) (st2 := [az_r 17]) (s2 := am_ur s 3 (va_cpy (s 21) (s 3) 0 0 184)) rfl ?_
  refine az_clv (v := none) (t := am_up (am_ur s 3 (va_cpy (s 21) (s 3) 0 0 184)) 17 2 (0)) (m2 := am_m_X2_forget) (as := [az_r 17]) (rest := []) 37 rfl rfl ⟨rfl, rfl⟩ (by omega) (zs_X2_forget (s := am_ur s 3 (va_cpy (s 21) (s 3) 0 0 184))  (by omega) ) ?_
  refine az_to 0 (pc2 := 37) (lv2 := [some (az_r 0)]) (st2 := []) (s2 := am_up (am_ur s 3 (va_cpy (s 21) (s 3) 0 0 184)) 17 2 (0)) rfl ?_
  refine az_to 3 (pc2 := 42) (lv2 := [some (az_r 0)]) (st2 := [az_i (2), az_r 1]) (s2 := am_up (am_ur s 3 (va_cpy (s 21) (s 3) 0 0 184)) 17 2 (0)) rfl ?_
  refine az_clv (v := some (az_i (((zn S 0 : Nat) : Int)))) (t := am_up (am_ur s 3 (va_cpy (s 21) (s 3) 0 0 184)) 17 2 (0)) (m2 := am_m_X8_of) (as := [az_r 1, az_i (2)]) (rest := []) 45 rfl rfl ⟨rfl, rfl⟩ (by omega) (zs_X8_of_2 (s := am_up (am_ur s 3 (va_cpy (s 21) (s 3) 0 0 184)) 17 2 (0))  (by omega) hR hI hh) ?_
  refine az_to 0 (pc2 := 45) (lv2 := [some (az_r 0)]) (st2 := [az_i (((zn S 0 : Nat) : Int))]) (s2 := am_up (am_ur s 3 (va_cpy (s 21) (s 3) 0 0 184)) 17 2 (0)) rfl ?_
  refine az_retI rfl rfl ?_
  exact ⟨rfl, rfl⟩

