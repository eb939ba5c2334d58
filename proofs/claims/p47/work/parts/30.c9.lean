/-! CLASS, 9: the questions of its face; written by program (wip/tools/zg/s9.py) -/
/-- the end of a question: its number, or the throw of its list -/
def zoe (l : List Nat) (r : Nat × Int) : az_O := if r.1 = 0 then .inl (some (az_i r.2)) else .inr (l.getD (r.1 - 1) 0)
/-- a question leaves all but the ways' own rows -/
def zFq (s t : az_S) : Prop := ∀ i, i ≠ 8 → i ≠ 10 → i ≠ 12 → i ≠ 14 → i ≠ 16 → t i = s i
theorem zFq_r (s : az_S) : zFq s s := fun _ _ _ _ _ _ => rfl
theorem zs_swap (n m : Nat) (f : Nat → Nat → Int) : zs n (fun i => zs m (f i)) = zs m (fun j => zs n (fun i => f i j)) := by
  have add : ∀ (m : Nat) (p q : Nat → Int), zs m (fun j => p j + q j) = zs m p + zs m q := by
    intro m p q
    induction m with
    | zero => rfl
    | succ m ih => simp only [zs]; rw [ih]; omega
  induction n with
  | zero =>
    show (0 : Int) = zs m (fun _ => 0)
    clear add
    induction m with
    | zero => rfl
    | succ m ih => simp only [zs]; omega
  | succ n ih =>
    show zs n (fun i => zs m (f i)) + zs m (f n) = zs m (fun j => zs n (fun i => f i j) + f n j)
    rw [add, ih]
theorem zs_hit (x : Int) : ∀ n : Nat, zs n (fun b => az_b (x = ((b : Nat) : Int))) = az_b (0 ≤ x ∧ x < n)
  | 0 => (az_b0 (by omega)).symm
  | n + 1 => by
    show zs n _ + az_b (x = ((n : Nat) : Int)) = _
    rw [zs_hit x n]
    by_cases q : x = ((n : Nat) : Int)
    · rw [az_b1 q, az_b0 (by omega), az_b1 (by omega)]; rfl
    · rw [az_b0 q]
      by_cases q2 : 0 ≤ x ∧ x < n
      · rw [az_b1 q2, az_b1 (by omega)]; rfl
      · rw [az_b0 q2, az_b0 (by omega)]; rfl
/-- bridges that are counted, told both ways -/
theorem zcp_zcc {S : zR} {h : Nat} (hI : zInv S h) : zcp S = zcc S := by
  have hn := zn_eq hI
  have e1 : zcp S = zs (zn S 1) (fun t => zs (zn S 0) (fun b => az_b (zT S t 0 = ((b : Nat) : Int)))) := by
    unfold zcp
    refine zs_ext (fun t ht => ?_)
    have h1 := hI.2.2.2.1 t (by have := zn_le hI; omega)
    have h2 := hI.2.2.2.2.2.1 t ht
    unfold zIt at h1
    rw [zs_hit]
    by_cases q : zT S t 0 = -1
    · rw [az_b0 (not_not_intro q), az_b0 (by omega)]
    · rw [az_b1 q, az_b1 (by omega)]
  have e2 : zcc S = zs (zn S 0) (fun b => zs (zn S 1) (fun t => az_b (zT S t 0 = ((b : Nat) : Int)))) := by
    unfold zcc
    refine zs_ext (fun b hb => ?_)
    by_cases q : 0 ≤ zat S b
    · obtain ⟨q1, q2⟩ := zat_is q
      rw [az_b1 q]
      have k := zs_upd (n := zn S 1) (f := fun _ => 0) (g := fun t => az_b (zT S t 0 = ((b : Nat) : Int))) (zat S b).toNat q1 (fun j hj hne => az_b0 (fun w => by
        rcases hI.2.2.2.2.2.2.1 j (zat S b).toNat hj q1 (by rw [w, q2]) with q5 | q5
        · omega
        · exact hne q5))
      rw [k, az_b1 q2]
      have z0 : ∀ n, zs n (fun _ => (0 : Int)) = 0 := fun n => by
        induction n with
        | zero => rfl
        | succ n ih => simp only [zs]; omega
      rw [z0]
      rfl
    · rw [az_b0 q]
      have k := zat_none q
      rw [zs_ext (g := fun _ => (0 : Int)) (fun t ht => az_b0 (k t ht))]
      have z0 : ∀ n, (0 : Int) = zs n (fun _ => (0 : Int)) := fun n => by
        induction n with
        | zero => rfl
        | succ n ih => simp only [zs]; omega
      exact z0 _
  rw [e1, e2, zs_swap]
def zq_bridgeOf (S : zR) (b w : Int) : Nat × Int :=
  if ¬ (0 ≤ b ∧ b < ((zn S 0 : Nat) : Int)) then (1, 0) else if ¬ (0 ≤ w ∧ w ≤ 8) then (2, 0)
  else (0, if w = 4 then zat S b.toNat else if w = 5 then az_b (S 3 < zB S b.toNat 4) else if w = 6 then zB S b.toNat 5 else if w = 7 then zch S b.toNat else if w = 8 then zB S b.toNat 6 else zB S b.toNat w.toNat)
def zq_trollOf (S : zR) (t w : Int) : Nat × Int :=
  if ¬ (0 ≤ t ∧ t < ((zn S 1 : Nat) : Int)) then (1, 0) else if ¬ (0 ≤ w ∧ w ≤ 3) then (2, 0)
  else (0, if w = 2 then zdn S t.toNat else if w = 3 then zrh S t.toNat else zT S t.toNat w.toNat)
def zq_goatOf (S : zR) (g w : Int) : Nat × Int :=
  if ¬ (0 ≤ g ∧ g < ((zn S 2 : Nat) : Int)) then (1, 0) else if ¬ (0 ≤ w ∧ w ≤ 5) then (2, 0)
  else (0, if w = 5 then zcg S g.toNat else zG S g.toNat w.toNat)
def zq_due (S : zR) (b : Int) : Nat × Int := if ¬ (0 ≤ b ∧ b < ((zn S 0 : Nat) : Int)) then (1, 0) else (0, zdue S b.toNat)
def zq_takes (S : zR) (b : Int) : Nat × Int := if ¬ (0 ≤ b ∧ b < ((zn S 0 : Nat) : Int)) then (1, 0) else (0, ztk S b.toNat)
noncomputable def zq_way (S : zR) (m : Nat) (f v : Int) : Nat × Int :=
  if ¬ (0 ≤ f ∧ f ≤ 5) ∨ ¬ (0 ≤ v ∧ v ≤ 5) then (1, 0) else if zwy S m f.toNat v.toNat = -1 then (2, 0) else (0, zwy S m f.toNat v.toNat)
noncomputable def zq_hangs (S : zR) (f v : Int) : Nat × Int :=
  if ¬ (0 ≤ f ∧ f ≤ 5) ∨ ¬ (0 ≤ v ∧ v ≤ 5) then (1, 0) else if zwy S 1 f.toNat v.toNat = -1 then (2, 0) else (0, zhg S f.toNat v.toNat)
def zq_richest (S : zR) (p : Int) : Nat × Int := if 0 ≤ zf (zn S 1) (fun t => decide (zpt S t = p)) then (0, zf (zn S 1) (fun t => decide (zpt S t = p))) else (1, 0)
def zq_tired (S : zR) (p : Int) : Nat × Int := if 0 ≤ zf (zn S 2) (fun t => decide (zpg S t = p)) then (0, zf (zn S 2) (fun t => decide (zpg S t = p))) else (1, 0)
def zq_next (S : zR) : Nat × Int := if zne S = -1 then (1, 0) else (0, zne S)
theorem zwy_r {S : zR} {m f v : Nat} (h : ∃ E, zgd S m f 1000 E) (hv : v < 6) : -1 ≤ zwy S m f v ∧ zwy S m f v ≤ 1000 := by
  obtain ⟨E, hE⟩ := h
  have := (zdi_g hE).2.1 v hv
  unfold zwy
  split <;> omega
theorem zpt_r (S : zR) (t : Nat) : 0 ≤ zpt S t ∧ zpt S t ≤ zn S 1 := by
  have := zs_le (n := zn S 1) (f := fun u => az_b (zric S u t)) (a := 0) (b := 1) (fun i hi => by unfold az_b; split <;> decide)
  unfold zpt
  omega
theorem zpg_r (S : zR) (t : Nat) : 0 ≤ zpg S t ∧ zpg S t ≤ zn S 2 := by
  have := zs_le (n := zn S 2) (f := fun u => az_b (ztir S u t)) (a := 0) (b := 1) (fun i hi => by unfold az_b; split <;> decide)
  unfold zpg
  omega
theorem zchs_5 {S : zR} {h : Nat} (hI : zInv S h) : zchs S = zs (zn S 0) (fun b => zs5 S b) := zs_ext (fun b hb => zch_5 hI (by have := zn_le hI; omega))
theorem zst_r {S : zR} {h : Nat} (hI : zInv S h) (hh : h ≤ 10000) : 0 ≤ zst S 1 ∧ zst S 1 ≤ 29700000 := by
  have hn := zn_le hI
  have := zs_le (n := zn S 1) (f := fun t => zT S t 1) (a := 0) (b := 4950000) (fun i hi => (zI_t hI hh (by omega)).2.1)
  unfold zst
  omega
theorem zchs_r {S : zR} {h : Nat} (hI : zInv S h) (hh : h ≤ 10000) : 0 ≤ zchs S ∧ zchs S ≤ 4950 := by
  have hn := zn_le hI
  have := zs_le (n := zn S 0) (f := fun b => zch S b) (a := 0) (b := 495) (fun i hi => zch_r hI hh (by omega))
  unfold zchs
  omega
theorem zcnt_r (n : Nat) (p : Nat → Prop) [∀ i, Decidable (p i)] : 0 ≤ zs n (fun i => az_b (p i)) ∧ zs n (fun i => az_b (p i)) ≤ n := by
  have := zs_le (n := n) (f := fun i => az_b (p i)) (a := 0) (b := 1) (fun i hi => by unfold az_b; split <;> decide)
  omega
set_option maxRecDepth 100000 in
set_option maxHeartbeats 800000 in
theorem zs_X9_needBridge_y {d : Nat} {s : az_S} (hd : 3 ≤ d) {S : zR} {h : Nat} (hR : zRel (s 3) S) (hI : zInv S h) (hh : h ≤ 10000) {z : Int} (hz0 : az_in z) (hy : 0 ≤ z ∧ z < ((zn S 0 : Nat) : Int)) : az_R d am_m_X9_needBridge 0 (az_ini (am_mL am_m_X9_needBridge) [az_r 0, az_i (z)]) [] (s) (az_ret (none) (s)) := by
  refine az_to 0 (pc2 := 0) (lv2 := [some (az_r 0), some (az_i (z))]) (st2 := []) (s2 := s) rfl ?_
  refine az_to 3 (pc2 := 5) (lv2 := [some (az_r 0), some (az_i (z))]) (st2 := [az_i (z), az_r 1]) (s2 := s) rfl ?_
  refine az_clv (v := some (az_i (az_b (0 ≤ z ∧ z < ((zn S 0 : Nat) : Int))))) (t := s) (m2 := am_m_X8_isBridge) (as := [az_r 1, az_i (z)]) (rest := []) 8 rfl rfl ⟨rfl, rfl⟩ (by omega) (zs_X8_isBridge (s := s) (z := z) (by omega) hR hI hh (by first | assumption | exact ⟨by omega, by omega⟩)) ?_
  refine az_to 0 (pc2 := 8) (lv2 := [some (az_r 0), some (az_i (z))]) (st2 := [az_i (az_b (0 ≤ z ∧ z < ((zn S 0 : Nat) : Int)))]) (s2 := s) rfl ?_
  refine az_ifbn 22 11 rfl (by decide) (fun h1 => ?_) (fun h1 => ?_)
  · have h1 : 0 ≤ z ∧ z < ((zn S 0 : Nat) : Int) := h1
    refine az_ret0 rfl rfl ?_
    exact ⟨rfl, rfl⟩
  · have h1 : ¬ (0 ≤ z ∧ z < ((zn S 0 : Nat) : Int)) := h1
    exact absurd hy h1
set_option maxRecDepth 100000 in
set_option maxHeartbeats 800000 in
theorem zs_X9_needBridge_n {d : Nat} {s : az_S} (hd : 3 ≤ d) {S : zR} {h : Nat} (hR : zRel (s 3) S) (hI : zInv S h) (hh : h ≤ 10000) {z : Int} (hz0 : az_in z) (hy : ¬ (0 ≤ z ∧ z < ((zn S 0 : Nat) : Int))) : az_R d am_m_X9_needBridge 0 (az_ini (am_mL am_m_X9_needBridge) [az_r 0, az_i (z)]) [] (s) (fun o t => o = .inr 3 ∧ t = s) := by
  refine az_to 0 (pc2 := 0) (lv2 := [some (az_r 0), some (az_i (z))]) (st2 := []) (s2 := s) rfl ?_
  refine az_to 3 (pc2 := 5) (lv2 := [some (az_r 0), some (az_i (z))]) (st2 := [az_i (z), az_r 1]) (s2 := s) rfl ?_
  refine az_clv (v := some (az_i (az_b (0 ≤ z ∧ z < ((zn S 0 : Nat) : Int))))) (t := s) (m2 := am_m_X8_isBridge) (as := [az_r 1, az_i (z)]) (rest := []) 8 rfl rfl ⟨rfl, rfl⟩ (by omega) (zs_X8_isBridge (s := s) (z := z) (by omega) hR hI hh (by first | assumption | exact ⟨by omega, by omega⟩)) ?_
  refine az_to 0 (pc2 := 8) (lv2 := [some (az_r 0), some (az_i (z))]) (st2 := [az_i (az_b (0 ≤ z ∧ z < ((zn S 0 : Nat) : Int)))]) (s2 := s) rfl ?_
  refine az_ifbn 22 11 rfl (by decide) (fun h1 => ?_) (fun h1 => ?_)
  · have h1 : 0 ≤ z ∧ z < ((zn S 0 : Nat) : Int) := h1
    exact absurd h1 hy
  · have h1 : ¬ (0 ≤ z ∧ z < ((zn S 0 : Nat) : Int)) := h1
    refine az_thr (E := 3) rfl rfl rfl ?_
    exact ⟨rfl, rfl⟩
set_option maxRecDepth 100000 in
set_option maxHeartbeats 800000 in
theorem zs_X9_needLand_y {d : Nat} {s : az_S} (hd : 2 ≤ d) {z : Int} (hz0 : az_in z) (hy : 0 ≤ z ∧ z ≤ 5) : az_R d am_m_X9_needLand 0 (az_ini (am_mL am_m_X9_needLand) [az_i (z)]) [] (s) (az_ret (none) (s)) := by
  refine az_to 0 (pc2 := 0) (lv2 := [some (az_i (z))]) (st2 := []) (s2 := s) rfl ?_
  refine az_to 1 (pc2 := 1) (lv2 := [some (az_i (z))]) (st2 := [az_i (z)]) (s2 := s) rfl ?_
  refine az_clv (v := some (az_i (az_b (0 ≤ z ∧ z ≤ 5)))) (t := s) (m2 := am_m_X9_isLand) (as := [az_i (z)]) (rest := []) 4 rfl rfl ⟨rfl, rfl⟩ (by omega) (zs_X9_isLand (s := s) (z := z) (by omega) (by first | assumption | exact ⟨by omega, by omega⟩)) ?_
  refine az_to 0 (pc2 := 4) (lv2 := [some (az_i (z))]) (st2 := [az_i (az_b (0 ≤ z ∧ z ≤ 5))]) (s2 := s) rfl ?_
  refine az_ifbn 18 7 rfl (by decide) (fun h1 => ?_) (fun h1 => ?_)
  · have h1 : 0 ≤ z ∧ z ≤ 5 := h1
    refine az_ret0 rfl rfl ?_
    exact ⟨rfl, rfl⟩
  · have h1 : ¬ (0 ≤ z ∧ z ≤ 5) := h1
    exact absurd hy h1
set_option maxRecDepth 100000 in
set_option maxHeartbeats 800000 in
theorem zs_X9_needLand_n {d : Nat} {s : az_S} (hd : 2 ≤ d) {z : Int} (hz0 : az_in z) (hy : ¬ (0 ≤ z ∧ z ≤ 5)) : az_R d am_m_X9_needLand 0 (az_ini (am_mL am_m_X9_needLand) [az_i (z)]) [] (s) (fun o t => o = .inr 3 ∧ t = s) := by
  refine az_to 0 (pc2 := 0) (lv2 := [some (az_i (z))]) (st2 := []) (s2 := s) rfl ?_
  refine az_to 1 (pc2 := 1) (lv2 := [some (az_i (z))]) (st2 := [az_i (z)]) (s2 := s) rfl ?_
  refine az_clv (v := some (az_i (az_b (0 ≤ z ∧ z ≤ 5)))) (t := s) (m2 := am_m_X9_isLand) (as := [az_i (z)]) (rest := []) 4 rfl rfl ⟨rfl, rfl⟩ (by omega) (zs_X9_isLand (s := s) (z := z) (by omega) (by first | assumption | exact ⟨by omega, by omega⟩)) ?_
  refine az_to 0 (pc2 := 4) (lv2 := [some (az_i (z))]) (st2 := [az_i (az_b (0 ≤ z ∧ z ≤ 5))]) (s2 := s) rfl ?_
  refine az_ifbn 18 7 rfl (by decide) (fun h1 => ?_) (fun h1 => ?_)
  · have h1 : 0 ≤ z ∧ z ≤ 5 := h1
    exact absurd h1 hy
  · have h1 : ¬ (0 ≤ z ∧ z ≤ 5) := h1
    refine az_thr (E := 3) rfl rfl rfl ?_
    exact ⟨rfl, rfl⟩
set_option maxRecDepth 100000 in
set_option maxHeartbeats 800000 in
theorem zs_X9_needWay_y {d : Nat} {s : az_S} (hd : 0 ≤ d) {z : Int} (hz0 : az_in z) (hy : ¬ z = -1) : az_R d am_m_X9_needWay 0 (az_ini (am_mL am_m_X9_needWay) [az_i (z)]) [] (s) (az_ret (some (az_i (z))) (s)) := by
  refine az_to 0 (pc2 := 0) (lv2 := [some (az_i (z))]) (st2 := []) (s2 := s) rfl ?_
  refine az_to 2 (pc2 := 2) (lv2 := [some (az_i (z))]) (st2 := [az_i (-1), az_i (z)]) (s2 := s) rfl ?_
  refine az_if2 16 5 rfl (by decide) (by first | assumption | exact ⟨by omega, by omega⟩) ⟨by decide, by decide⟩ (fun h1 => ?_) (fun h1 => ?_)
  · have h1 : ¬ z = -1 := h1
    refine az_to 1 (pc2 := 17) (lv2 := [some (az_i (z))]) (st2 := [az_i (z)]) (s2 := s) rfl ?_
    refine az_retI rfl rfl ?_
    exact ⟨rfl, rfl⟩
  · have h1 : z = -1 := Decidable.not_not.mp h1
    exact absurd h1 hy
set_option maxRecDepth 100000 in
set_option maxHeartbeats 800000 in
theorem zs_X9_needWay_n {d : Nat} {s : az_S} (hd : 0 ≤ d) {z : Int} (hz0 : az_in z) (hy : ¬ ¬ z = -1) : az_R d am_m_X9_needWay 0 (az_ini (am_mL am_m_X9_needWay) [az_i (z)]) [] (s) (fun o t => o = .inr 5 ∧ t = s) := by
  refine az_to 0 (pc2 := 0) (lv2 := [some (az_i (z))]) (st2 := []) (s2 := s) rfl ?_
  refine az_to 2 (pc2 := 2) (lv2 := [some (az_i (z))]) (st2 := [az_i (-1), az_i (z)]) (s2 := s) rfl ?_
  refine az_if2 16 5 rfl (by decide) (by first | assumption | exact ⟨by omega, by omega⟩) ⟨by decide, by decide⟩ (fun h1 => ?_) (fun h1 => ?_)
  · have h1 : ¬ z = -1 := h1
    exact absurd h1 hy
  · have h1 : z = -1 := Decidable.not_not.mp h1
    refine az_thr (E := 5) rfl rfl rfl ?_
    exact ⟨rfl, rfl⟩
set_option maxRecDepth 100000 in
set_option maxHeartbeats 800000 in
theorem zs_X9_bridgeOf {d : Nat} {s : az_S} (hd : 4 ≤ d) {S : zR} {h : Nat} (hR : zRel (s 3) S) (hI : zInv S h) (hh : h ≤ 10000) {zb : Int} {zw : Int} (h_zb : az_in zb) (h_zw : az_in zw) : az_R d am_m_X9_bridgeOf 0 (az_ini (am_mL am_m_X9_bridgeOf) [az_r 0, az_i (zb), az_i (zw)]) [] (s) (fun o t => o = zoe [3, 1] (zq_bridgeOf S zb zw) ∧ zFq s t) := by
  have hz := zI_h hI hh
  refine az_to 0 (pc2 := 0) (lv2 := [some (az_r 0), some (az_i (zb)), some (az_i (zw))]) (st2 := []) (s2 := s) rfl ?_
  refine az_to 2 (pc2 := 2) (lv2 := [some (az_r 0), some (az_i (zb)), some (az_i (zw))]) (st2 := [az_i (zb), az_r 0]) (s2 := s) rfl ?_
  by_cases h1 : 0 ≤ zb ∧ zb < ((zn S 0 : Nat) : Int)
  · skip
    obtain ⟨b, rfl⟩ : ∃ n0 : Nat, zb = n0 := ⟨zb.toNat, by omega⟩
    have hzb := zI_b hI hh (b := b) (by omega)
    refine az_to 0 (pc2 := 2) (lv2 := [some (az_r 0), some (az_i (((b : Nat) : Int))), some (az_i (zw))]) (st2 := [az_i (((b : Nat) : Int)), az_r 0]) (s2 := s) (rfl) ?_
    by_cases h2 : 0 ≤ (((b : Nat) : Int)) ∧ (((b : Nat) : Int)) < ((zn S 0 : Nat) : Int)
    · skip
      refine az_clv (v := none) (t := s) (m2 := am_m_X9_needBridge) (as := [az_r 0, az_i (((b : Nat) : Int))]) (rest := []) 5 rfl rfl ⟨rfl, rfl⟩ (by omega) (zs_X9_needBridge_y (s := s) (z := (((b : Nat) : Int))) (by omega) hR hI hh (by first | assumption | exact ⟨by omega, by omega⟩) (by first | assumption | omega)) ?_
      refine az_to 0 (pc2 := 5) (lv2 := [some (az_r 0), some (az_i (((b : Nat) : Int))), some (az_i (zw))]) (st2 := []) (s2 := s) rfl ?_
      refine az_to 1 (pc2 := 6) (lv2 := [some (az_r 0), some (az_i (((b : Nat) : Int))), some (az_i (zw))]) (st2 := [az_i (zw)]) (s2 := s) rfl ?_
      have h3 : (zw < 0 ∨ 8 < zw) ∨ zw = 0 ∨ zw = 1 ∨ zw = 2 ∨ zw = 3 ∨ zw = 4 ∨ zw = 5 ∨ zw = 6 ∨ zw = 7 ∨ zw = 8 := by omega
      rcases h3 with h3 | h3 | h3 | h3 | h3 | h3 | h3 | h3 | h3 | h3
      · refine az_swd 154 rfl (by first | assumption | exact ⟨by omega, by omega⟩) h3 (by decide) ?_
        refine az_thr (E := 1) rfl rfl rfl ?_
        have e : zq_bridgeOf S ((b : Nat) : Int) zw = (2, 0) := by
          simp only [zq_bridgeOf, Int.toNat_natCast]
          first | (rw [if_pos (by omega)]) | (rw [if_neg (by omega), if_pos (by omega)]) | (rw [if_neg (by omega), if_neg (by omega), if_pos (by omega)]) | (rw [if_neg (by omega), if_neg (by omega), if_neg (by omega), if_pos (by omega)])
        rw [e]
        exact ⟨rfl, zFq_r _⟩
      · refine az_swc 56 rfl (by first | assumption | exact ⟨by omega, by omega⟩) (by omega) (off := 50) (by rw [h3]; rfl) (by decide) ?_
        subst h3
        refine az_to 0 (pc2 := 56) (lv2 := [some (az_r 0), some (az_i (((b : Nat) : Int))), some (az_i (0))]) (st2 := []) (s2 := s) (rfl) ?_
        refine az_to 4 (pc2 := 62) (lv2 := [some (az_r 0), some (az_i (((b : Nat) : Int))), some (az_i (0))]) (st2 := [az_i (0), az_i (((b : Nat) : Int)), az_r 1]) (s2 := s) rfl ?_
        refine az_clv (v := some (az_i (zB S b 0))) (t := s) (m2 := am_m_X8_ofBridge) (as := [az_r 1, az_i (((b : Nat) : Int)), az_i (0)]) (rest := []) 65 rfl rfl ⟨rfl, rfl⟩ (by omega) (zs_X8_ofBridge (s := s) (b := b) (k := 0) (by omega) hR (by omega) (by omega) (by omega)) ?_
        refine az_to 0 (pc2 := 65) (lv2 := [some (az_r 0), some (az_i (((b : Nat) : Int))), some (az_i (0))]) (st2 := [az_i (zB S b 0)]) (s2 := s) rfl ?_
        refine az_retI rfl rfl ?_
        have e : zq_bridgeOf S ((b : Nat) : Int) 0 = (0, zB S b 0) := by
          simp only [zq_bridgeOf, Int.toNat_natCast]
          rw [if_neg (by omega), if_neg (by omega)]
          first | rfl | (rw [az_b1 (by assumption)]; rfl) | (rw [az_b0 (by assumption)]; rfl)
        rw [e]
        exact ⟨rfl, zFq_r _⟩
      · refine az_swc 66 rfl (by first | assumption | exact ⟨by omega, by omega⟩) (by omega) (off := 60) (by rw [h3]; rfl) (by decide) ?_
        subst h3
        refine az_to 0 (pc2 := 66) (lv2 := [some (az_r 0), some (az_i (((b : Nat) : Int))), some (az_i (1))]) (st2 := []) (s2 := s) (rfl) ?_
        refine az_to 4 (pc2 := 72) (lv2 := [some (az_r 0), some (az_i (((b : Nat) : Int))), some (az_i (1))]) (st2 := [az_i (1), az_i (((b : Nat) : Int)), az_r 1]) (s2 := s) rfl ?_
        refine az_clv (v := some (az_i (zB S b 1))) (t := s) (m2 := am_m_X8_ofBridge) (as := [az_r 1, az_i (((b : Nat) : Int)), az_i (1)]) (rest := []) 75 rfl rfl ⟨rfl, rfl⟩ (by omega) (zs_X8_ofBridge (s := s) (b := b) (k := 1) (by omega) hR (by omega) (by omega) (by omega)) ?_
        refine az_to 0 (pc2 := 75) (lv2 := [some (az_r 0), some (az_i (((b : Nat) : Int))), some (az_i (1))]) (st2 := [az_i (zB S b 1)]) (s2 := s) rfl ?_
        refine az_retI rfl rfl ?_
        have e : zq_bridgeOf S ((b : Nat) : Int) 1 = (0, zB S b 1) := by
          simp only [zq_bridgeOf, Int.toNat_natCast]
          rw [if_neg (by omega), if_neg (by omega)]
          first | rfl | (rw [az_b1 (by assumption)]; rfl) | (rw [az_b0 (by assumption)]; rfl)
        rw [e]
        exact ⟨rfl, zFq_r _⟩
      · refine az_swc 76 rfl (by first | assumption | exact ⟨by omega, by omega⟩) (by omega) (off := 70) (by rw [h3]; rfl) (by decide) ?_
        subst h3
        refine az_to 0 (pc2 := 76) (lv2 := [some (az_r 0), some (az_i (((b : Nat) : Int))), some (az_i (2))]) (st2 := []) (s2 := s) (rfl) ?_
        refine az_to 4 (pc2 := 82) (lv2 := [some (az_r 0), some (az_i (((b : Nat) : Int))), some (az_i (2))]) (st2 := [az_i (2), az_i (((b : Nat) : Int)), az_r 1]) (s2 := s) rfl ?_
        refine az_clv (v := some (az_i (zB S b 2))) (t := s) (m2 := am_m_X8_ofBridge) (as := [az_r 1, az_i (((b : Nat) : Int)), az_i (2)]) (rest := []) 85 rfl rfl ⟨rfl, rfl⟩ (by omega) (zs_X8_ofBridge (s := s) (b := b) (k := 2) (by omega) hR (by omega) (by omega) (by omega)) ?_
        refine az_to 0 (pc2 := 85) (lv2 := [some (az_r 0), some (az_i (((b : Nat) : Int))), some (az_i (2))]) (st2 := [az_i (zB S b 2)]) (s2 := s) rfl ?_
        refine az_retI rfl rfl ?_
        have e : zq_bridgeOf S ((b : Nat) : Int) 2 = (0, zB S b 2) := by
          simp only [zq_bridgeOf, Int.toNat_natCast]
          rw [if_neg (by omega), if_neg (by omega)]
          first | rfl | (rw [az_b1 (by assumption)]; rfl) | (rw [az_b0 (by assumption)]; rfl)
        rw [e]
        exact ⟨rfl, zFq_r _⟩
      · refine az_swc 86 rfl (by first | assumption | exact ⟨by omega, by omega⟩) (by omega) (off := 80) (by rw [h3]; rfl) (by decide) ?_
        subst h3
        refine az_to 0 (pc2 := 86) (lv2 := [some (az_r 0), some (az_i (((b : Nat) : Int))), some (az_i (3))]) (st2 := []) (s2 := s) (rfl) ?_
        refine az_to 4 (pc2 := 92) (lv2 := [some (az_r 0), some (az_i (((b : Nat) : Int))), some (az_i (3))]) (st2 := [az_i (3), az_i (((b : Nat) : Int)), az_r 1]) (s2 := s) rfl ?_
        refine az_clv (v := some (az_i (zB S b 3))) (t := s) (m2 := am_m_X8_ofBridge) (as := [az_r 1, az_i (((b : Nat) : Int)), az_i (3)]) (rest := []) 95 rfl rfl ⟨rfl, rfl⟩ (by omega) (zs_X8_ofBridge (s := s) (b := b) (k := 3) (by omega) hR (by omega) (by omega) (by omega)) ?_
        refine az_to 0 (pc2 := 95) (lv2 := [some (az_r 0), some (az_i (((b : Nat) : Int))), some (az_i (3))]) (st2 := [az_i (zB S b 3)]) (s2 := s) rfl ?_
        refine az_retI rfl rfl ?_
        have e : zq_bridgeOf S ((b : Nat) : Int) 3 = (0, zB S b 3) := by
          simp only [zq_bridgeOf, Int.toNat_natCast]
          rw [if_neg (by omega), if_neg (by omega)]
          first | rfl | (rw [az_b1 (by assumption)]; rfl) | (rw [az_b0 (by assumption)]; rfl)
        rw [e]
        exact ⟨rfl, zFq_r _⟩
      · refine az_swc 96 rfl (by first | assumption | exact ⟨by omega, by omega⟩) (by omega) (off := 90) (by rw [h3]; rfl) (by decide) ?_
        subst h3
        refine az_to 0 (pc2 := 96) (lv2 := [some (az_r 0), some (az_i (((b : Nat) : Int))), some (az_i (4))]) (st2 := []) (s2 := s) (rfl) ?_
        refine az_to 4 (pc2 := 102) (lv2 := [some (az_r 0), some (az_i (((b : Nat) : Int))), some (az_i (4))]) (st2 := [az_i (4), az_i (((b : Nat) : Int)), az_r 1]) (s2 := s) rfl ?_
        refine az_clv (v := some (az_i (zat S b))) (t := s) (m2 := am_m_X8_ofBridge) (as := [az_r 1, az_i (((b : Nat) : Int)), az_i (4)]) (rest := []) 105 rfl rfl ⟨rfl, rfl⟩ (by omega) (zs_X8_ofBridge (s := s) (b := b) (k := 4) (by omega) hR (by omega) (by omega) (by omega)) ?_
        refine az_to 0 (pc2 := 105) (lv2 := [some (az_r 0), some (az_i (((b : Nat) : Int))), some (az_i (4))]) (st2 := [az_i (zat S b)]) (s2 := s) rfl ?_
        refine az_retI rfl rfl ?_
        have e : zq_bridgeOf S ((b : Nat) : Int) 4 = (0, zat S b) := by
          simp only [zq_bridgeOf, Int.toNat_natCast]
          rw [if_neg (by omega), if_neg (by omega)]
          first | rfl | (rw [az_b1 (by assumption)]; rfl) | (rw [az_b0 (by assumption)]; rfl)
        rw [e]
        exact ⟨rfl, zFq_r _⟩
      · refine az_swc 106 rfl (by first | assumption | exact ⟨by omega, by omega⟩) (by omega) (off := 100) (by rw [h3]; rfl) (by decide) ?_
        subst h3
        refine az_to 0 (pc2 := 106) (lv2 := [some (az_r 0), some (az_i (((b : Nat) : Int))), some (az_i (5))]) (st2 := []) (s2 := s) (rfl) ?_
        refine az_to 3 (pc2 := 111) (lv2 := [some (az_r 0), some (az_i (((b : Nat) : Int))), some (az_i (5))]) (st2 := [az_i (((b : Nat) : Int)), az_r 1]) (s2 := s) rfl ?_
        refine az_clv (v := some (az_i (az_b (S 3 < zB S b 4)))) (t := s) (m2 := am_m_X8_isInFog) (as := [az_r 1, az_i (((b : Nat) : Int))]) (rest := []) 114 rfl rfl ⟨rfl, rfl⟩ (by omega) (zs_X8_isInFog (s := s) (b := b) (by omega) hR hI hh (by omega)) ?_
        refine az_to 0 (pc2 := 114) (lv2 := [some (az_r 0), some (az_i (((b : Nat) : Int))), some (az_i (5))]) (st2 := [az_i (az_b (S 3 < zB S b 4))]) (s2 := s) rfl ?_
        refine az_ifbe 121 117 rfl (by decide) (fun h4 => ?_) (fun h4 => ?_)
        · have h4 : ¬ (S 3 < zB S b 4) := h4
          refine az_to 1 (pc2 := 122) (lv2 := [some (az_r 0), some (az_i (((b : Nat) : Int))), some (az_i (5))]) (st2 := [az_i (0)]) (s2 := s) rfl ?_
          refine az_retI rfl rfl ?_
          have e : zq_bridgeOf S ((b : Nat) : Int) 5 = (0, 0) := by
            simp only [zq_bridgeOf, Int.toNat_natCast]
            rw [if_neg (by omega), if_neg (by omega)]
            first | rfl | (rw [az_b1 (by assumption)]; rfl) | (rw [az_b0 (by assumption)]; rfl)
          rw [e]
          exact ⟨rfl, zFq_r _⟩
        · have h4 : S 3 < zB S b 4 := h4
          refine az_to 2 (pc2 := 122) (lv2 := [some (az_r 0), some (az_i (((b : Nat) : Int))), some (az_i (5))]) (st2 := [az_i (1)]) (s2 := s) rfl ?_
          refine az_retI rfl rfl ?_
          have e : zq_bridgeOf S ((b : Nat) : Int) 5 = (0, 1) := by
            simp only [zq_bridgeOf, Int.toNat_natCast]
            rw [if_neg (by omega), if_neg (by omega)]
            first | rfl | (rw [az_b1 (by assumption)]; rfl) | (rw [az_b0 (by assumption)]; rfl)
          rw [e]
          exact ⟨rfl, zFq_r _⟩
      · refine az_swc 123 rfl (by first | assumption | exact ⟨by omega, by omega⟩) (by omega) (off := 117) (by rw [h3]; rfl) (by decide) ?_
        subst h3
        refine az_to 0 (pc2 := 123) (lv2 := [some (az_r 0), some (az_i (((b : Nat) : Int))), some (az_i (6))]) (st2 := []) (s2 := s) (rfl) ?_
        refine az_to 4 (pc2 := 130) (lv2 := [some (az_r 0), some (az_i (((b : Nat) : Int))), some (az_i (6))]) (st2 := [az_i (6), az_i (((b : Nat) : Int)), az_r 1]) (s2 := s) rfl ?_
        refine az_clv (v := some (az_i (zB S b 5))) (t := s) (m2 := am_m_X8_ofBridge) (as := [az_r 1, az_i (((b : Nat) : Int)), az_i (6)]) (rest := []) 133 rfl rfl ⟨rfl, rfl⟩ (by omega) (zs_X8_ofBridge (s := s) (b := b) (k := 6) (by omega) hR (by omega) (by omega) (by omega)) ?_
        refine az_to 0 (pc2 := 133) (lv2 := [some (az_r 0), some (az_i (((b : Nat) : Int))), some (az_i (6))]) (st2 := [az_i (zB S b 5)]) (s2 := s) rfl ?_
        refine az_retI rfl rfl ?_
        have e : zq_bridgeOf S ((b : Nat) : Int) 6 = (0, zB S b 5) := by
          simp only [zq_bridgeOf, Int.toNat_natCast]
          rw [if_neg (by omega), if_neg (by omega)]
          first | rfl | (rw [az_b1 (by assumption)]; rfl) | (rw [az_b0 (by assumption)]; rfl)
        rw [e]
        exact ⟨rfl, zFq_r _⟩
      · refine az_swc 134 rfl (by first | assumption | exact ⟨by omega, by omega⟩) (by omega) (off := 128) (by rw [h3]; rfl) (by decide) ?_
        subst h3
        refine az_to 0 (pc2 := 134) (lv2 := [some (az_r 0), some (az_i (((b : Nat) : Int))), some (az_i (7))]) (st2 := []) (s2 := s) (rfl) ?_
        refine az_to 3 (pc2 := 139) (lv2 := [some (az_r 0), some (az_i (((b : Nat) : Int))), some (az_i (7))]) (st2 := [az_i (((b : Nat) : Int)), az_r 1]) (s2 := s) rfl ?_
        refine az_clv (v := some (az_i (zch S b))) (t := s) (m2 := am_m_X8_coinsInChest) (as := [az_r 1, az_i (((b : Nat) : Int))]) (rest := []) 142 rfl rfl ⟨rfl, rfl⟩ (by omega) (zs_X8_coinsInChest (s := s) (b := b) (by omega) hR hI hh (by omega)) ?_
        refine az_to 0 (pc2 := 142) (lv2 := [some (az_r 0), some (az_i (((b : Nat) : Int))), some (az_i (7))]) (st2 := [az_i (zch S b)]) (s2 := s) rfl ?_
        refine az_retI rfl rfl ?_
        have e : zq_bridgeOf S ((b : Nat) : Int) 7 = (0, zch S b) := by
          simp only [zq_bridgeOf, Int.toNat_natCast]
          rw [if_neg (by omega), if_neg (by omega)]
          first | rfl | (rw [az_b1 (by assumption)]; rfl) | (rw [az_b0 (by assumption)]; rfl)
        rw [e]
        exact ⟨rfl, zFq_r _⟩
      · refine az_swc 143 rfl (by first | assumption | exact ⟨by omega, by omega⟩) (by omega) (off := 137) (by rw [h3]; rfl) (by decide) ?_
        subst h3
        refine az_to 0 (pc2 := 143) (lv2 := [some (az_r 0), some (az_i (((b : Nat) : Int))), some (az_i (8))]) (st2 := []) (s2 := s) (rfl) ?_
        refine az_to 4 (pc2 := 150) (lv2 := [some (az_r 0), some (az_i (((b : Nat) : Int))), some (az_i (8))]) (st2 := [az_i (7), az_i (((b : Nat) : Int)), az_r 1]) (s2 := s) rfl ?_
        refine az_clv (v := some (az_i (zB S b 6))) (t := s) (m2 := am_m_X8_ofBridge) (as := [az_r 1, az_i (((b : Nat) : Int)), az_i (7)]) (rest := []) 153 rfl rfl ⟨rfl, rfl⟩ (by omega) (zs_X8_ofBridge (s := s) (b := b) (k := 7) (by omega) hR (by omega) (by omega) (by omega)) ?_
        refine az_to 0 (pc2 := 153) (lv2 := [some (az_r 0), some (az_i (((b : Nat) : Int))), some (az_i (8))]) (st2 := [az_i (zB S b 6)]) (s2 := s) rfl ?_
        refine az_retI rfl rfl ?_
        have e : zq_bridgeOf S ((b : Nat) : Int) 8 = (0, zB S b 6) := by
          simp only [zq_bridgeOf, Int.toNat_natCast]
          rw [if_neg (by omega), if_neg (by omega)]
          first | rfl | (rw [az_b1 (by assumption)]; rfl) | (rw [az_b0 (by assumption)]; rfl)
        rw [e]
        exact ⟨rfl, zFq_r _⟩
    · skip
      refine az_cl (m2 := am_m_X9_needBridge) (as := [az_r 0, az_i (((b : Nat) : Int))]) (rest := []) 5 rfl rfl ⟨rfl, rfl⟩ (by omega) (zs_X9_needBridge_n (s := s) (z := (((b : Nat) : Int))) (by omega) hR hI hh (by first | assumption | exact ⟨by omega, by omega⟩) (by first | assumption | omega)) (fun v t q9 => by cases q9.1) (fun E9 t q9 => ?_)
      obtain ⟨q8, q9⟩ := q9
      cases q8
      rw [q9]
      have e : zq_bridgeOf S ((b : Nat) : Int) zw = (1, 0) := by
        simp only [zq_bridgeOf, Int.toNat_natCast]
        first | (rw [if_pos (by omega)]) | (rw [if_neg (by omega), if_pos (by omega)]) | (rw [if_neg (by omega), if_neg (by omega), if_pos (by omega)]) | (rw [if_neg (by omega), if_neg (by omega), if_neg (by omega), if_pos (by omega)])
      rw [e]
      exact ⟨rfl, zFq_r _⟩
  · skip
    refine az_cl (m2 := am_m_X9_needBridge) (as := [az_r 0, az_i (zb)]) (rest := []) 5 rfl rfl ⟨rfl, rfl⟩ (by omega) (zs_X9_needBridge_n (s := s) (z := zb) (by omega) hR hI hh (by first | assumption | exact ⟨by omega, by omega⟩) (by first | assumption | omega)) (fun v t q9 => by cases q9.1) (fun E9 t q9 => ?_)
    obtain ⟨q8, q9⟩ := q9
    cases q8
    rw [q9]
    have e : zq_bridgeOf S zb zw = (1, 0) := by
      simp only [zq_bridgeOf, Int.toNat_natCast]
      first | (rw [if_pos (by omega)]) | (rw [if_neg (by omega), if_pos (by omega)]) | (rw [if_neg (by omega), if_neg (by omega), if_pos (by omega)]) | (rw [if_neg (by omega), if_neg (by omega), if_neg (by omega), if_pos (by omega)])
    rw [e]
    exact ⟨rfl, zFq_r _⟩
set_option maxRecDepth 100000 in
set_option maxHeartbeats 800000 in
theorem zs_X9_trollOf {d : Nat} {s : az_S} (hd : 4 ≤ d) {S : zR} {h : Nat} (hR : zRel (s 3) S) (hI : zInv S h) (hh : h ≤ 10000) {zt : Int} {zw : Int} (h_zt : az_in zt) (h_zw : az_in zw) : az_R d am_m_X9_trollOf 0 (az_ini (am_mL am_m_X9_trollOf) [az_r 0, az_i (zt), az_i (zw)]) [] (s) (fun o t => o = zoe [3, 1] (zq_trollOf S zt zw) ∧ zFq s t) := by
  have hz := zI_h hI hh
  refine az_to 0 (pc2 := 0) (lv2 := [some (az_r 0), some (az_i (zt)), some (az_i (zw))]) (st2 := []) (s2 := s) rfl ?_
  refine az_to 3 (pc2 := 5) (lv2 := [some (az_r 0), some (az_i (zt)), some (az_i (zw))]) (st2 := [az_i (zt), az_r 1]) (s2 := s) rfl ?_
  refine az_clv (v := some (az_i (az_b (0 ≤ zt ∧ zt < ((zn S 1 : Nat) : Int))))) (t := s) (m2 := am_m_X8_isTroll) (as := [az_r 1, az_i (zt)]) (rest := []) 8 rfl rfl ⟨rfl, rfl⟩ (by omega) (zs_X8_isTroll (s := s) (z := zt) (by omega) hR hI hh (by first | assumption | exact ⟨by omega, by omega⟩)) ?_
  refine az_to 0 (pc2 := 8) (lv2 := [some (az_r 0), some (az_i (zt)), some (az_i (zw))]) (st2 := [az_i (az_b (0 ≤ zt ∧ zt < ((zn S 1 : Nat) : Int)))]) (s2 := s) rfl ?_
  refine az_ifbn 21 11 rfl (by decide) (fun h1 => ?_) (fun h1 => ?_)
  · have h1 : 0 ≤ zt ∧ zt < ((zn S 1 : Nat) : Int) := h1
    obtain ⟨t, rfl⟩ : ∃ n0 : Nat, zt = n0 := ⟨zt.toNat, by omega⟩
    have hzt := zI_t hI hh (t := t) (by omega)
    have hzu := hI.2.2.2.2.2.1 t (by omega)
    refine az_to 0 (pc2 := 21) (lv2 := [some (az_r 0), some (az_i (((t : Nat) : Int))), some (az_i (zw))]) (st2 := []) (s2 := s) (rfl) ?_
    refine az_to 1 (pc2 := 22) (lv2 := [some (az_r 0), some (az_i (((t : Nat) : Int))), some (az_i (zw))]) (st2 := [az_i (zw)]) (s2 := s) rfl ?_
    have h2 : (zw < 0 ∨ 3 < zw) ∨ zw = 0 ∨ zw = 1 ∨ zw = 2 ∨ zw = 3 := by omega
    rcases h2 with h2 | h2 | h2 | h2 | h2
    · refine az_swd 90 rfl (by first | assumption | exact ⟨by omega, by omega⟩) h2 (by decide) ?_
      refine az_thr (E := 1) rfl rfl rfl ?_
      have e : zq_trollOf S ((t : Nat) : Int) zw = (2, 0) := by
        simp only [zq_trollOf, Int.toNat_natCast]
        first | (rw [if_pos (by omega)]) | (rw [if_neg (by omega), if_pos (by omega)]) | (rw [if_neg (by omega), if_neg (by omega), if_pos (by omega)]) | (rw [if_neg (by omega), if_neg (by omega), if_neg (by omega), if_pos (by omega)])
      rw [e]
      exact ⟨rfl, zFq_r _⟩
    · refine az_swc 52 rfl (by first | assumption | exact ⟨by omega, by omega⟩) (by omega) (off := 30) (by rw [h2]; rfl) (by decide) ?_
      subst h2
      refine az_to 0 (pc2 := 52) (lv2 := [some (az_r 0), some (az_i (((t : Nat) : Int))), some (az_i (0))]) (st2 := []) (s2 := s) (rfl) ?_
      refine az_to 4 (pc2 := 58) (lv2 := [some (az_r 0), some (az_i (((t : Nat) : Int))), some (az_i (0))]) (st2 := [az_i (0), az_i (((t : Nat) : Int)), az_r 1]) (s2 := s) rfl ?_
      refine az_clv (v := some (az_i (zT S t 0))) (t := s) (m2 := am_m_X8_ofTroll) (as := [az_r 1, az_i (((t : Nat) : Int)), az_i (0)]) (rest := []) 61 rfl rfl ⟨rfl, rfl⟩ (by omega) (zs_X8_ofTroll (s := s) (t := t) (k := 0) (by omega) hR (by omega) (by omega)) ?_
      refine az_to 0 (pc2 := 61) (lv2 := [some (az_r 0), some (az_i (((t : Nat) : Int))), some (az_i (0))]) (st2 := [az_i (zT S t 0)]) (s2 := s) rfl ?_
      refine az_retI rfl rfl ?_
      have e : zq_trollOf S ((t : Nat) : Int) 0 = (0, zT S t 0) := by
        simp only [zq_trollOf, Int.toNat_natCast]
        rw [if_neg (by omega), if_neg (by omega)]
        rfl
      rw [e]
      exact ⟨rfl, zFq_r _⟩
    · refine az_swc 62 rfl (by first | assumption | exact ⟨by omega, by omega⟩) (by omega) (off := 40) (by rw [h2]; rfl) (by decide) ?_
      subst h2
      refine az_to 0 (pc2 := 62) (lv2 := [some (az_r 0), some (az_i (((t : Nat) : Int))), some (az_i (1))]) (st2 := []) (s2 := s) (rfl) ?_
      refine az_to 4 (pc2 := 68) (lv2 := [some (az_r 0), some (az_i (((t : Nat) : Int))), some (az_i (1))]) (st2 := [az_i (1), az_i (((t : Nat) : Int)), az_r 1]) (s2 := s) rfl ?_
      refine az_clv (v := some (az_i (zT S t 1))) (t := s) (m2 := am_m_X8_ofTroll) (as := [az_r 1, az_i (((t : Nat) : Int)), az_i (1)]) (rest := []) 71 rfl rfl ⟨rfl, rfl⟩ (by omega) (zs_X8_ofTroll (s := s) (t := t) (k := 1) (by omega) hR (by omega) (by omega)) ?_
      refine az_to 0 (pc2 := 71) (lv2 := [some (az_r 0), some (az_i (((t : Nat) : Int))), some (az_i (1))]) (st2 := [az_i (zT S t 1)]) (s2 := s) rfl ?_
      refine az_retI rfl rfl ?_
      have e : zq_trollOf S ((t : Nat) : Int) 1 = (0, zT S t 1) := by
        simp only [zq_trollOf, Int.toNat_natCast]
        rw [if_neg (by omega), if_neg (by omega)]
        rfl
      rw [e]
      exact ⟨rfl, zFq_r _⟩
    · refine az_swc 72 rfl (by first | assumption | exact ⟨by omega, by omega⟩) (by omega) (off := 50) (by rw [h2]; rfl) (by decide) ?_
      subst h2
      refine az_to 0 (pc2 := 72) (lv2 := [some (az_r 0), some (az_i (((t : Nat) : Int))), some (az_i (2))]) (st2 := []) (s2 := s) (rfl) ?_
      refine az_to 3 (pc2 := 77) (lv2 := [some (az_r 0), some (az_i (((t : Nat) : Int))), some (az_i (2))]) (st2 := [az_i (((t : Nat) : Int)), az_r 1]) (s2 := s) rfl ?_
      refine az_clv (v := some (az_i (zdn S t))) (t := s) (m2 := am_m_X8_difficultyNow) (as := [az_r 1, az_i (((t : Nat) : Int))]) (rest := []) 80 rfl rfl ⟨rfl, rfl⟩ (by omega) (zs_X8_difficultyNow (s := s) (t := t) (by omega) hR hI hh (by omega)) ?_
      refine az_to 0 (pc2 := 80) (lv2 := [some (az_r 0), some (az_i (((t : Nat) : Int))), some (az_i (2))]) (st2 := [az_i (zdn S t)]) (s2 := s) rfl ?_
      refine az_retI rfl rfl ?_
      have e : zq_trollOf S ((t : Nat) : Int) 2 = (0, zdn S t) := by
        simp only [zq_trollOf, Int.toNat_natCast]
        rw [if_neg (by omega), if_neg (by omega)]
        rfl
      rw [e]
      exact ⟨rfl, zFq_r _⟩
    · refine az_swc 81 rfl (by first | assumption | exact ⟨by omega, by omega⟩) (by omega) (off := 59) (by rw [h2]; rfl) (by decide) ?_
      subst h2
      refine az_to 0 (pc2 := 81) (lv2 := [some (az_r 0), some (az_i (((t : Nat) : Int))), some (az_i (3))]) (st2 := []) (s2 := s) (rfl) ?_
      refine az_to 3 (pc2 := 86) (lv2 := [some (az_r 0), some (az_i (((t : Nat) : Int))), some (az_i (3))]) (st2 := [az_i (((t : Nat) : Int)), az_r 1]) (s2 := s) rfl ?_
      refine az_clv (v := some (az_i (zrh S t))) (t := s) (m2 := am_m_X8_riddleHours) (as := [az_r 1, az_i (((t : Nat) : Int))]) (rest := []) 89 rfl rfl ⟨rfl, rfl⟩ (by omega) (zs_X8_riddleHours (s := s) (t := t) (by omega) hR hI hh (by omega)) ?_
      refine az_to 0 (pc2 := 89) (lv2 := [some (az_r 0), some (az_i (((t : Nat) : Int))), some (az_i (3))]) (st2 := [az_i (zrh S t)]) (s2 := s) rfl ?_
      refine az_retI rfl rfl ?_
      have e : zq_trollOf S ((t : Nat) : Int) 3 = (0, zrh S t) := by
        simp only [zq_trollOf, Int.toNat_natCast]
        rw [if_neg (by omega), if_neg (by omega)]
        rfl
      rw [e]
      exact ⟨rfl, zFq_r _⟩
  · have h1 : ¬ (0 ≤ zt ∧ zt < ((zn S 1 : Nat) : Int)) := h1
    refine az_thr (E := 3) rfl rfl rfl ?_
    have e : zq_trollOf S zt zw = (1, 0) := by
      simp only [zq_trollOf, Int.toNat_natCast]
      first | (rw [if_pos (by omega)]) | (rw [if_neg (by omega), if_pos (by omega)]) | (rw [if_neg (by omega), if_neg (by omega), if_pos (by omega)]) | (rw [if_neg (by omega), if_neg (by omega), if_neg (by omega), if_pos (by omega)])
    rw [e]
    exact ⟨rfl, zFq_r _⟩
set_option maxRecDepth 100000 in
set_option maxHeartbeats 800000 in
theorem zs_X9_goatOf {d : Nat} {s : az_S} (hd : 4 ≤ d) {S : zR} {h : Nat} (hR : zRel (s 3) S) (hI : zInv S h) (hh : h ≤ 10000) {zg : Int} {zw : Int} (h_zg : az_in zg) (h_zw : az_in zw) : az_R d am_m_X9_goatOf 0 (az_ini (am_mL am_m_X9_goatOf) [az_r 0, az_i (zg), az_i (zw)]) [] (s) (fun o t => o = zoe [3, 1] (zq_goatOf S zg zw) ∧ zFq s t) := by
  have hz := zI_h hI hh
  refine az_to 0 (pc2 := 0) (lv2 := [some (az_r 0), some (az_i (zg)), some (az_i (zw))]) (st2 := []) (s2 := s) rfl ?_
  refine az_to 3 (pc2 := 5) (lv2 := [some (az_r 0), some (az_i (zg)), some (az_i (zw))]) (st2 := [az_i (zg), az_r 1]) (s2 := s) rfl ?_
  refine az_clv (v := some (az_i (az_b (0 ≤ zg ∧ zg < ((zn S 2 : Nat) : Int))))) (t := s) (m2 := am_m_X8_isGoat) (as := [az_r 1, az_i (zg)]) (rest := []) 8 rfl rfl ⟨rfl, rfl⟩ (by omega) (zs_X8_isGoat (s := s) (z := zg) (by omega) hR hI hh (by first | assumption | exact ⟨by omega, by omega⟩)) ?_
  refine az_to 0 (pc2 := 8) (lv2 := [some (az_r 0), some (az_i (zg)), some (az_i (zw))]) (st2 := [az_i (az_b (0 ≤ zg ∧ zg < ((zn S 2 : Nat) : Int)))]) (s2 := s) rfl ?_
  refine az_ifbn 21 11 rfl (by decide) (fun h1 => ?_) (fun h1 => ?_)
  · have h1 : 0 ≤ zg ∧ zg < ((zn S 2 : Nat) : Int) := h1
    obtain ⟨g, rfl⟩ : ∃ n0 : Nat, zg = n0 := ⟨zg.toNat, by omega⟩
    have hzg := zI_g hI hh (g := g) (by omega)
    refine az_to 0 (pc2 := 21) (lv2 := [some (az_r 0), some (az_i (((g : Nat) : Int))), some (az_i (zw))]) (st2 := []) (s2 := s) (rfl) ?_
    refine az_to 1 (pc2 := 22) (lv2 := [some (az_r 0), some (az_i (((g : Nat) : Int))), some (az_i (zw))]) (st2 := [az_i (zw)]) (s2 := s) rfl ?_
    have h2 : (zw < 0 ∨ 5 < zw) ∨ zw = 0 ∨ zw = 1 ∨ zw = 2 ∨ zw = 3 ∨ zw = 4 ∨ zw = 5 := by omega
    rcases h2 with h2 | h2 | h2 | h2 | h2 | h2 | h2
    · refine az_swd 119 rfl (by first | assumption | exact ⟨by omega, by omega⟩) h2 (by decide) ?_
      refine az_thr (E := 1) rfl rfl rfl ?_
      have e : zq_goatOf S ((g : Nat) : Int) zw = (2, 0) := by
        simp only [zq_goatOf, Int.toNat_natCast]
        first | (rw [if_pos (by omega)]) | (rw [if_neg (by omega), if_pos (by omega)]) | (rw [if_neg (by omega), if_neg (by omega), if_pos (by omega)]) | (rw [if_neg (by omega), if_neg (by omega), if_neg (by omega), if_pos (by omega)])
      rw [e]
      exact ⟨rfl, zFq_r _⟩
    · refine az_swc 60 rfl (by first | assumption | exact ⟨by omega, by omega⟩) (by omega) (off := 38) (by rw [h2]; rfl) (by decide) ?_
      subst h2
      refine az_to 0 (pc2 := 60) (lv2 := [some (az_r 0), some (az_i (((g : Nat) : Int))), some (az_i (0))]) (st2 := []) (s2 := s) (rfl) ?_
      refine az_to 4 (pc2 := 66) (lv2 := [some (az_r 0), some (az_i (((g : Nat) : Int))), some (az_i (0))]) (st2 := [az_i (0), az_i (((g : Nat) : Int)), az_r 1]) (s2 := s) rfl ?_
      refine az_clv (v := some (az_i (zG S g 0))) (t := s) (m2 := am_m_X8_ofGoat) (as := [az_r 1, az_i (((g : Nat) : Int)), az_i (0)]) (rest := []) 69 rfl rfl ⟨rfl, rfl⟩ (by omega) (zs_X8_ofGoat (s := s) (g := g) (k := 0) (by omega) hR (by omega) (by omega)) ?_
      refine az_to 0 (pc2 := 69) (lv2 := [some (az_r 0), some (az_i (((g : Nat) : Int))), some (az_i (0))]) (st2 := [az_i (zG S g 0)]) (s2 := s) rfl ?_
      refine az_retI rfl rfl ?_
      have e : zq_goatOf S ((g : Nat) : Int) 0 = (0, zG S g 0) := by
        simp only [zq_goatOf, Int.toNat_natCast]
        rw [if_neg (by omega), if_neg (by omega)]
        rfl
      rw [e]
      exact ⟨rfl, zFq_r _⟩
    · refine az_swc 70 rfl (by first | assumption | exact ⟨by omega, by omega⟩) (by omega) (off := 48) (by rw [h2]; rfl) (by decide) ?_
      subst h2
      refine az_to 0 (pc2 := 70) (lv2 := [some (az_r 0), some (az_i (((g : Nat) : Int))), some (az_i (1))]) (st2 := []) (s2 := s) (rfl) ?_
      refine az_to 4 (pc2 := 76) (lv2 := [some (az_r 0), some (az_i (((g : Nat) : Int))), some (az_i (1))]) (st2 := [az_i (1), az_i (((g : Nat) : Int)), az_r 1]) (s2 := s) rfl ?_
      refine az_clv (v := some (az_i (zG S g 1))) (t := s) (m2 := am_m_X8_ofGoat) (as := [az_r 1, az_i (((g : Nat) : Int)), az_i (1)]) (rest := []) 79 rfl rfl ⟨rfl, rfl⟩ (by omega) (zs_X8_ofGoat (s := s) (g := g) (k := 1) (by omega) hR (by omega) (by omega)) ?_
      refine az_to 0 (pc2 := 79) (lv2 := [some (az_r 0), some (az_i (((g : Nat) : Int))), some (az_i (1))]) (st2 := [az_i (zG S g 1)]) (s2 := s) rfl ?_
      refine az_retI rfl rfl ?_
      have e : zq_goatOf S ((g : Nat) : Int) 1 = (0, zG S g 1) := by
        simp only [zq_goatOf, Int.toNat_natCast]
        rw [if_neg (by omega), if_neg (by omega)]
        rfl
      rw [e]
      exact ⟨rfl, zFq_r _⟩
    · refine az_swc 80 rfl (by first | assumption | exact ⟨by omega, by omega⟩) (by omega) (off := 58) (by rw [h2]; rfl) (by decide) ?_
      subst h2
      refine az_to 0 (pc2 := 80) (lv2 := [some (az_r 0), some (az_i (((g : Nat) : Int))), some (az_i (2))]) (st2 := []) (s2 := s) (rfl) ?_
      refine az_to 4 (pc2 := 86) (lv2 := [some (az_r 0), some (az_i (((g : Nat) : Int))), some (az_i (2))]) (st2 := [az_i (2), az_i (((g : Nat) : Int)), az_r 1]) (s2 := s) rfl ?_
      refine az_clv (v := some (az_i (zG S g 2))) (t := s) (m2 := am_m_X8_ofGoat) (as := [az_r 1, az_i (((g : Nat) : Int)), az_i (2)]) (rest := []) 89 rfl rfl ⟨rfl, rfl⟩ (by omega) (zs_X8_ofGoat (s := s) (g := g) (k := 2) (by omega) hR (by omega) (by omega)) ?_
      refine az_to 0 (pc2 := 89) (lv2 := [some (az_r 0), some (az_i (((g : Nat) : Int))), some (az_i (2))]) (st2 := [az_i (zG S g 2)]) (s2 := s) rfl ?_
      refine az_retI rfl rfl ?_
      have e : zq_goatOf S ((g : Nat) : Int) 2 = (0, zG S g 2) := by
        simp only [zq_goatOf, Int.toNat_natCast]
        rw [if_neg (by omega), if_neg (by omega)]
        rfl
      rw [e]
      exact ⟨rfl, zFq_r _⟩
    · refine az_swc 90 rfl (by first | assumption | exact ⟨by omega, by omega⟩) (by omega) (off := 68) (by rw [h2]; rfl) (by decide) ?_
      subst h2
      refine az_to 0 (pc2 := 90) (lv2 := [some (az_r 0), some (az_i (((g : Nat) : Int))), some (az_i (3))]) (st2 := []) (s2 := s) (rfl) ?_
      refine az_to 4 (pc2 := 96) (lv2 := [some (az_r 0), some (az_i (((g : Nat) : Int))), some (az_i (3))]) (st2 := [az_i (3), az_i (((g : Nat) : Int)), az_r 1]) (s2 := s) rfl ?_
      refine az_clv (v := some (az_i (zG S g 3))) (t := s) (m2 := am_m_X8_ofGoat) (as := [az_r 1, az_i (((g : Nat) : Int)), az_i (3)]) (rest := []) 99 rfl rfl ⟨rfl, rfl⟩ (by omega) (zs_X8_ofGoat (s := s) (g := g) (k := 3) (by omega) hR (by omega) (by omega)) ?_
      refine az_to 0 (pc2 := 99) (lv2 := [some (az_r 0), some (az_i (((g : Nat) : Int))), some (az_i (3))]) (st2 := [az_i (zG S g 3)]) (s2 := s) rfl ?_
      refine az_retI rfl rfl ?_
      have e : zq_goatOf S ((g : Nat) : Int) 3 = (0, zG S g 3) := by
        simp only [zq_goatOf, Int.toNat_natCast]
        rw [if_neg (by omega), if_neg (by omega)]
        rfl
      rw [e]
      exact ⟨rfl, zFq_r _⟩
    · refine az_swc 100 rfl (by first | assumption | exact ⟨by omega, by omega⟩) (by omega) (off := 78) (by rw [h2]; rfl) (by decide) ?_
      subst h2
      refine az_to 0 (pc2 := 100) (lv2 := [some (az_r 0), some (az_i (((g : Nat) : Int))), some (az_i (4))]) (st2 := []) (s2 := s) (rfl) ?_
      refine az_to 4 (pc2 := 106) (lv2 := [some (az_r 0), some (az_i (((g : Nat) : Int))), some (az_i (4))]) (st2 := [az_i (4), az_i (((g : Nat) : Int)), az_r 1]) (s2 := s) rfl ?_
      refine az_clv (v := some (az_i (zG S g 4))) (t := s) (m2 := am_m_X8_ofGoat) (as := [az_r 1, az_i (((g : Nat) : Int)), az_i (4)]) (rest := []) 109 rfl rfl ⟨rfl, rfl⟩ (by omega) (zs_X8_ofGoat (s := s) (g := g) (k := 4) (by omega) hR (by omega) (by omega)) ?_
      refine az_to 0 (pc2 := 109) (lv2 := [some (az_r 0), some (az_i (((g : Nat) : Int))), some (az_i (4))]) (st2 := [az_i (zG S g 4)]) (s2 := s) rfl ?_
      refine az_retI rfl rfl ?_
      have e : zq_goatOf S ((g : Nat) : Int) 4 = (0, zG S g 4) := by
        simp only [zq_goatOf, Int.toNat_natCast]
        rw [if_neg (by omega), if_neg (by omega)]
        rfl
      rw [e]
      exact ⟨rfl, zFq_r _⟩
    · refine az_swc 110 rfl (by first | assumption | exact ⟨by omega, by omega⟩) (by omega) (off := 88) (by rw [h2]; rfl) (by decide) ?_
      subst h2
      refine az_to 0 (pc2 := 110) (lv2 := [some (az_r 0), some (az_i (((g : Nat) : Int))), some (az_i (5))]) (st2 := []) (s2 := s) (rfl) ?_
      refine az_to 3 (pc2 := 115) (lv2 := [some (az_r 0), some (az_i (((g : Nat) : Int))), some (az_i (5))]) (st2 := [az_i (((g : Nat) : Int)), az_r 1]) (s2 := s) rfl ?_
      refine az_clv (v := some (az_i (zcg S g))) (t := s) (m2 := am_m_X8_coinsInChestsOf) (as := [az_r 1, az_i (((g : Nat) : Int))]) (rest := []) 118 rfl rfl ⟨rfl, rfl⟩ (by omega) (zs_X8_coinsInChestsOf (s := s) (g := g) (by omega) hR hI hh (by omega)) ?_
      refine az_to 0 (pc2 := 118) (lv2 := [some (az_r 0), some (az_i (((g : Nat) : Int))), some (az_i (5))]) (st2 := [az_i (zcg S g)]) (s2 := s) rfl ?_
      refine az_retI rfl rfl ?_
      have e : zq_goatOf S ((g : Nat) : Int) 5 = (0, zcg S g) := by
        simp only [zq_goatOf, Int.toNat_natCast]
        rw [if_neg (by omega), if_neg (by omega)]
        rfl
      rw [e]
      exact ⟨rfl, zFq_r _⟩
  · have h1 : ¬ (0 ≤ zg ∧ zg < ((zn S 2 : Nat) : Int)) := h1
    refine az_thr (E := 3) rfl rfl rfl ?_
    have e : zq_goatOf S zg zw = (1, 0) := by
      simp only [zq_goatOf, Int.toNat_natCast]
      first | (rw [if_pos (by omega)]) | (rw [if_neg (by omega), if_pos (by omega)]) | (rw [if_neg (by omega), if_neg (by omega), if_pos (by omega)]) | (rw [if_neg (by omega), if_neg (by omega), if_neg (by omega), if_pos (by omega)])
    rw [e]
    exact ⟨rfl, zFq_r _⟩
set_option maxRecDepth 100000 in
set_option maxHeartbeats 800000 in
theorem zs_X9_due {d : Nat} {s : az_S} (hd : 5 ≤ d) {S : zR} {h : Nat} (hR : zRel (s 3) S) (hI : zInv S h) (hh : h ≤ 10000) {zb : Int} (h_zb : az_in zb) : az_R d am_m_X9_due 0 (az_ini (am_mL am_m_X9_due) [az_r 0, az_i (zb)]) [] (s) (fun o t => o = zoe [3] (zq_due S zb) ∧ zFq s t) := by
  have hz := zI_h hI hh
  refine az_to 0 (pc2 := 0) (lv2 := [some (az_r 0), some (az_i (zb))]) (st2 := []) (s2 := s) rfl ?_
  refine az_to 2 (pc2 := 2) (lv2 := [some (az_r 0), some (az_i (zb))]) (st2 := [az_i (zb), az_r 0]) (s2 := s) rfl ?_
  by_cases h1 : 0 ≤ zb ∧ zb < ((zn S 0 : Nat) : Int)
  · skip
    obtain ⟨b, rfl⟩ : ∃ n0 : Nat, zb = n0 := ⟨zb.toNat, by omega⟩
    have hzb := zI_b hI hh (b := b) (by omega)
    refine az_to 0 (pc2 := 2) (lv2 := [some (az_r 0), some (az_i (((b : Nat) : Int)))]) (st2 := [az_i (((b : Nat) : Int)), az_r 0]) (s2 := s) (rfl) ?_
    by_cases h2 : 0 ≤ (((b : Nat) : Int)) ∧ (((b : Nat) : Int)) < ((zn S 0 : Nat) : Int)
    · skip
      refine az_clv (v := none) (t := s) (m2 := am_m_X9_needBridge) (as := [az_r 0, az_i (((b : Nat) : Int))]) (rest := []) 5 rfl rfl ⟨rfl, rfl⟩ (by omega) (zs_X9_needBridge_y (s := s) (z := (((b : Nat) : Int))) (by omega) hR hI hh (by first | assumption | exact ⟨by omega, by omega⟩) (by first | assumption | omega)) ?_
      refine az_to 0 (pc2 := 5) (lv2 := [some (az_r 0), some (az_i (((b : Nat) : Int)))]) (st2 := []) (s2 := s) rfl ?_
      refine az_to 3 (pc2 := 10) (lv2 := [some (az_r 0), some (az_i (((b : Nat) : Int)))]) (st2 := [az_i (((b : Nat) : Int)), az_r 1]) (s2 := s) rfl ?_
      refine az_clv (v := some (az_i (zdue S b))) (t := s) (m2 := am_m_X8_tollDue) (as := [az_r 1, az_i (((b : Nat) : Int))]) (rest := []) 13 rfl rfl ⟨rfl, rfl⟩ (by omega) (zs_X8_tollDue (s := s) (b := b) (by omega) hR hI hh (by omega)) ?_
      refine az_to 0 (pc2 := 13) (lv2 := [some (az_r 0), some (az_i (((b : Nat) : Int)))]) (st2 := [az_i (zdue S b)]) (s2 := s) rfl ?_
      refine az_retI rfl rfl ?_
      have e : zq_due S ((b : Nat) : Int) = (0, zdue S b) := by
        simp only [zq_due, Int.toNat_natCast]
        rw [if_neg (by omega)]
      rw [e]
      exact ⟨rfl, zFq_r _⟩
    · skip
      refine az_cl (m2 := am_m_X9_needBridge) (as := [az_r 0, az_i (((b : Nat) : Int))]) (rest := []) 5 rfl rfl ⟨rfl, rfl⟩ (by omega) (zs_X9_needBridge_n (s := s) (z := (((b : Nat) : Int))) (by omega) hR hI hh (by first | assumption | exact ⟨by omega, by omega⟩) (by first | assumption | omega)) (fun v t q9 => by cases q9.1) (fun E9 t q9 => ?_)
      obtain ⟨q8, q9⟩ := q9
      cases q8
      rw [q9]
      have e : zq_due S ((b : Nat) : Int) = (1, 0) := by
        simp only [zq_due, Int.toNat_natCast]
        first | (rw [if_pos (by omega)]) | (rw [if_neg (by omega), if_pos (by omega)]) | (rw [if_neg (by omega), if_neg (by omega), if_pos (by omega)]) | (rw [if_neg (by omega), if_neg (by omega), if_neg (by omega), if_pos (by omega)])
      rw [e]
      exact ⟨rfl, zFq_r _⟩
  · skip
    refine az_cl (m2 := am_m_X9_needBridge) (as := [az_r 0, az_i (zb)]) (rest := []) 5 rfl rfl ⟨rfl, rfl⟩ (by omega) (zs_X9_needBridge_n (s := s) (z := zb) (by omega) hR hI hh (by first | assumption | exact ⟨by omega, by omega⟩) (by first | assumption | omega)) (fun v t q9 => by cases q9.1) (fun E9 t q9 => ?_)
    obtain ⟨q8, q9⟩ := q9
    cases q8
    rw [q9]
    have e : zq_due S zb = (1, 0) := by
      simp only [zq_due, Int.toNat_natCast]
      first | (rw [if_pos (by omega)]) | (rw [if_neg (by omega), if_pos (by omega)]) | (rw [if_neg (by omega), if_neg (by omega), if_pos (by omega)]) | (rw [if_neg (by omega), if_neg (by omega), if_neg (by omega), if_pos (by omega)])
    rw [e]
    exact ⟨rfl, zFq_r _⟩
set_option maxRecDepth 100000 in
set_option maxHeartbeats 800000 in
theorem zs_X9_takes {d : Nat} {s : az_S} (hd : 5 ≤ d) {S : zR} {h : Nat} (hR : zRel (s 3) S) (hI : zInv S h) (hh : h ≤ 10000) {zb : Int} (h_zb : az_in zb) : az_R d am_m_X9_takes 0 (az_ini (am_mL am_m_X9_takes) [az_r 0, az_i (zb)]) [] (s) (fun o t => o = zoe [3] (zq_takes S zb) ∧ zFq s t) := by
  have hz := zI_h hI hh
  refine az_to 0 (pc2 := 0) (lv2 := [some (az_r 0), some (az_i (zb))]) (st2 := []) (s2 := s) rfl ?_
  refine az_to 2 (pc2 := 2) (lv2 := [some (az_r 0), some (az_i (zb))]) (st2 := [az_i (zb), az_r 0]) (s2 := s) rfl ?_
  by_cases h1 : 0 ≤ zb ∧ zb < ((zn S 0 : Nat) : Int)
  · skip
    obtain ⟨b, rfl⟩ : ∃ n0 : Nat, zb = n0 := ⟨zb.toNat, by omega⟩
    have hzb := zI_b hI hh (b := b) (by omega)
    refine az_to 0 (pc2 := 2) (lv2 := [some (az_r 0), some (az_i (((b : Nat) : Int)))]) (st2 := [az_i (((b : Nat) : Int)), az_r 0]) (s2 := s) (rfl) ?_
    by_cases h2 : 0 ≤ (((b : Nat) : Int)) ∧ (((b : Nat) : Int)) < ((zn S 0 : Nat) : Int)
    · skip
      refine az_clv (v := none) (t := s) (m2 := am_m_X9_needBridge) (as := [az_r 0, az_i (((b : Nat) : Int))]) (rest := []) 5 rfl rfl ⟨rfl, rfl⟩ (by omega) (zs_X9_needBridge_y (s := s) (z := (((b : Nat) : Int))) (by omega) hR hI hh (by first | assumption | exact ⟨by omega, by omega⟩) (by first | assumption | omega)) ?_
      refine az_to 0 (pc2 := 5) (lv2 := [some (az_r 0), some (az_i (((b : Nat) : Int)))]) (st2 := []) (s2 := s) rfl ?_
      refine az_to 3 (pc2 := 10) (lv2 := [some (az_r 0), some (az_i (((b : Nat) : Int)))]) (st2 := [az_i (((b : Nat) : Int)), az_r 1]) (s2 := s) rfl ?_
      refine az_clv (v := some (az_i (ztk S b))) (t := s) (m2 := am_m_X8_hoursOver) (as := [az_r 1, az_i (((b : Nat) : Int))]) (rest := []) 13 rfl rfl ⟨rfl, rfl⟩ (by omega) (zs_X8_hoursOver (s := s) (b := b) (by omega) hR hI hh (by omega)) ?_
      refine az_to 0 (pc2 := 13) (lv2 := [some (az_r 0), some (az_i (((b : Nat) : Int)))]) (st2 := [az_i (ztk S b)]) (s2 := s) rfl ?_
      refine az_retI rfl rfl ?_
      have e : zq_takes S ((b : Nat) : Int) = (0, ztk S b) := by
        simp only [zq_takes, Int.toNat_natCast]
        rw [if_neg (by omega)]
      rw [e]
      exact ⟨rfl, zFq_r _⟩
    · skip
      refine az_cl (m2 := am_m_X9_needBridge) (as := [az_r 0, az_i (((b : Nat) : Int))]) (rest := []) 5 rfl rfl ⟨rfl, rfl⟩ (by omega) (zs_X9_needBridge_n (s := s) (z := (((b : Nat) : Int))) (by omega) hR hI hh (by first | assumption | exact ⟨by omega, by omega⟩) (by first | assumption | omega)) (fun v t q9 => by cases q9.1) (fun E9 t q9 => ?_)
      obtain ⟨q8, q9⟩ := q9
      cases q8
      rw [q9]
      have e : zq_takes S ((b : Nat) : Int) = (1, 0) := by
        simp only [zq_takes, Int.toNat_natCast]
        first | (rw [if_pos (by omega)]) | (rw [if_neg (by omega), if_pos (by omega)]) | (rw [if_neg (by omega), if_neg (by omega), if_pos (by omega)]) | (rw [if_neg (by omega), if_neg (by omega), if_neg (by omega), if_pos (by omega)])
      rw [e]
      exact ⟨rfl, zFq_r _⟩
  · skip
    refine az_cl (m2 := am_m_X9_needBridge) (as := [az_r 0, az_i (zb)]) (rest := []) 5 rfl rfl ⟨rfl, rfl⟩ (by omega) (zs_X9_needBridge_n (s := s) (z := zb) (by omega) hR hI hh (by first | assumption | exact ⟨by omega, by omega⟩) (by first | assumption | omega)) (fun v t q9 => by cases q9.1) (fun E9 t q9 => ?_)
    obtain ⟨q8, q9⟩ := q9
    cases q8
    rw [q9]
    have e : zq_takes S zb = (1, 0) := by
      simp only [zq_takes, Int.toNat_natCast]
      first | (rw [if_pos (by omega)]) | (rw [if_neg (by omega), if_pos (by omega)]) | (rw [if_neg (by omega), if_neg (by omega), if_pos (by omega)]) | (rw [if_neg (by omega), if_neg (by omega), if_neg (by omega), if_pos (by omega)])
    rw [e]
    exact ⟨rfl, zFq_r _⟩
set_option maxRecDepth 100000 in
set_option maxHeartbeats 800000 in
theorem zs_X9_cheapest {d : Nat} {s : az_S} (hd : 7 ≤ d) {S : zR} {h : Nat} (hR : zRel (s 3) S) (hI : zInv S h) (hh : h ≤ 10000) {zf0 : Int} {zv : Int} (h_zf0 : az_in zf0) (h_zv : az_in zv) : az_R d am_m_X9_cheapest 0 (az_ini (am_mL am_m_X9_cheapest) [az_r 0, az_i (zf0), az_i (zv)]) [] (s) (fun o t => o = zoe [3, 5] (zq_way S 0 zf0 zv) ∧ zFq s t) := by
  have hz := zI_h hI hh
  refine az_to 0 (pc2 := 0) (lv2 := [some (az_r 0), some (az_i (zf0)), some (az_i (zv))]) (st2 := []) (s2 := s) rfl ?_
  refine az_to 1 (pc2 := 1) (lv2 := [some (az_r 0), some (az_i (zf0)), some (az_i (zv))]) (st2 := [az_i (zf0)]) (s2 := s) rfl ?_
  by_cases h1 : 0 ≤ zf0 ∧ zf0 ≤ 5
  · skip
    obtain ⟨f, rfl⟩ : ∃ n0 : Nat, zf0 = n0 := ⟨zf0.toNat, by omega⟩
    refine az_to 0 (pc2 := 1) (lv2 := [some (az_r 0), some (az_i (((f : Nat) : Int))), some (az_i (zv))]) (st2 := [az_i (((f : Nat) : Int))]) (s2 := s) (rfl) ?_
    by_cases h2 : 0 ≤ (((f : Nat) : Int)) ∧ (((f : Nat) : Int)) ≤ 5
    · skip
      refine az_clv (v := none) (t := s) (m2 := am_m_X9_needLand) (as := [az_i (((f : Nat) : Int))]) (rest := []) 4 rfl rfl ⟨rfl, rfl⟩ (by omega) (zs_X9_needLand_y (s := s) (z := (((f : Nat) : Int))) (by omega) (by first | assumption | exact ⟨by omega, by omega⟩) (by first | assumption | omega)) ?_
      refine az_to 0 (pc2 := 4) (lv2 := [some (az_r 0), some (az_i (((f : Nat) : Int))), some (az_i (zv))]) (st2 := []) (s2 := s) rfl ?_
      refine az_to 1 (pc2 := 5) (lv2 := [some (az_r 0), some (az_i (((f : Nat) : Int))), some (az_i (zv))]) (st2 := [az_i (zv)]) (s2 := s) rfl ?_
      by_cases h3 : 0 ≤ zv ∧ zv ≤ 5
      · skip
        obtain ⟨v, rfl⟩ : ∃ n0 : Nat, zv = n0 := ⟨zv.toNat, by omega⟩
        refine az_to 0 (pc2 := 5) (lv2 := [some (az_r 0), some (az_i (((f : Nat) : Int))), some (az_i (((v : Nat) : Int)))]) (st2 := [az_i (((v : Nat) : Int))]) (s2 := s) (rfl) ?_
        by_cases h4 : 0 ≤ (((v : Nat) : Int)) ∧ (((v : Nat) : Int)) ≤ 5
        · skip
          refine az_clv (v := none) (t := s) (m2 := am_m_X9_needLand) (as := [az_i (((v : Nat) : Int))]) (rest := []) 8 rfl rfl ⟨rfl, rfl⟩ (by omega) (zs_X9_needLand_y (s := s) (z := (((v : Nat) : Int))) (by omega) (by first | assumption | exact ⟨by omega, by omega⟩) (by first | assumption | omega)) ?_
          refine az_to 0 (pc2 := 8) (lv2 := [some (az_r 0), some (az_i (((f : Nat) : Int))), some (az_i (((v : Nat) : Int)))]) (st2 := []) (s2 := s) rfl ?_
          refine az_to 3 (pc2 := 13) (lv2 := [some (az_r 0), some (az_i (((f : Nat) : Int))), some (az_i (((v : Nat) : Int)))]) (st2 := [az_i (0), az_r 6]) (s2 := s) rfl ?_
          refine az_cl (m2 := am_m_X7_measure) (as := [az_r 6, az_i (0)]) (rest := []) 16 rfl rfl ⟨rfl, rfl⟩ (by omega) (zs_X7_measure_0 (s := s)  (by omega) hR hI hh) (fun v5 t5 q5 => ?_) (fun E t5 q5 => by cases q5.1)
          obtain ⟨o5, ff5, gg5⟩ := q5
          cases o5
          refine az_to 0 (pc2 := 16) (lv2 := [some (az_r 0), some (az_i (((f : Nat) : Int))), some (az_i (((v : Nat) : Int)))]) (st2 := []) (s2 := t5) rfl ?_
          have hRm : zRel (t5 3) S := by rw [gg5 3 (by decide)]; exact hR
          have hLm : ∀ b, b < zn S 0 → t5 8 b = zln S 0 b := ff5
          refine az_to 4 (pc2 := 22) (lv2 := [some (az_r 0), some (az_i (((f : Nat) : Int))), some (az_i (((v : Nat) : Int)))]) (st2 := [az_i (((v : Nat) : Int)), az_i (((f : Nat) : Int)), az_r 6]) (s2 := t5) rfl ?_
          refine az_cl (m2 := am_m_X7_landByLand) (as := [az_r 6, az_i (((f : Nat) : Int)), az_i (((v : Nat) : Int))]) (rest := []) 25 rfl rfl ⟨rfl, rfl⟩ (by omega) (zs_X7_landByLand (s := t5) (f := f) (v := v) (by omega) hRm hI hh hLm (by omega) (by omega)) (fun v6 t6 q6 => ?_) (fun E t6 q6 => by cases q6.1)
          obtain ⟨o6, ff6, gg6⟩ := q6
          cases o6
          refine az_to 0 (pc2 := 25) (lv2 := [some (az_r 0), some (az_i (((f : Nat) : Int))), some (az_i (((v : Nat) : Int)))]) (st2 := [az_i (zwy S 0 f v)]) (s2 := t6) rfl ?_
          have hwr := zwy_r (S := S) (m := 0) (f := f) (v := v) ⟨_, ff6⟩ (by omega)
          have hRw : zRel (t6 3) S := by rw [gg6 3 (by decide) (by decide)]; exact hRm
          have hLw : ∀ b, b < zn S 0 → t6 8 b = zln S 0 b := fun b hb => by rw [gg6 8 (by decide) (by decide)]; exact hLm b hb
          by_cases h7 : ¬ (zwy S 0 f v) = -1
          · skip
            refine az_clv (v := some (az_i ((zwy S 0 f v)))) (t := t6) (m2 := am_m_X9_needWay) (as := [az_i (zwy S 0 f v)]) (rest := []) 28 rfl rfl ⟨rfl, rfl⟩ (by omega) (zs_X9_needWay_y (s := t6) (z := (zwy S 0 f v)) (by omega) (by first | assumption | exact ⟨by omega, by omega⟩) (by first | assumption | omega)) ?_
            refine az_to 0 (pc2 := 28) (lv2 := [some (az_r 0), some (az_i (((f : Nat) : Int))), some (az_i (((v : Nat) : Int)))]) (st2 := [az_i ((zwy S 0 f v))]) (s2 := t6) rfl ?_
            refine az_retI rfl rfl ?_
            have e : zq_way S 0 ((f : Nat) : Int) ((v : Nat) : Int) = (0, (zwy S 0 f v)) := by
              simp only [zq_way, Int.toNat_natCast]
              rw [if_neg (by omega), if_neg (by omega)]
            rw [e]
            exact ⟨rfl, fun i i8 i10 i12 i14 i16 => by rw [gg6 i (by assumption) (by assumption), gg5 i i8]⟩
          · skip
            refine az_cl (m2 := am_m_X9_needWay) (as := [az_i (zwy S 0 f v)]) (rest := []) 28 rfl rfl ⟨rfl, rfl⟩ (by omega) (zs_X9_needWay_n (s := t6) (z := (zwy S 0 f v)) (by omega) (by first | assumption | exact ⟨by omega, by omega⟩) (by first | assumption | omega)) (fun v t q9 => by cases q9.1) (fun E9 t q9 => ?_)
            obtain ⟨q8, q9⟩ := q9
            cases q8
            rw [q9]
            have e : zq_way S 0 ((f : Nat) : Int) ((v : Nat) : Int) = (2, 0) := by
              simp only [zq_way, Int.toNat_natCast]
              first | (rw [if_pos (by omega)]) | (rw [if_neg (by omega), if_pos (by omega)]) | (rw [if_neg (by omega), if_neg (by omega), if_pos (by omega)]) | (rw [if_neg (by omega), if_neg (by omega), if_neg (by omega), if_pos (by omega)])
            rw [e]
            exact ⟨rfl, fun i i8 i10 i12 i14 i16 => by rw [gg6 i (by assumption) (by assumption), gg5 i i8]⟩
        · skip
          refine az_cl (m2 := am_m_X9_needLand) (as := [az_i (((v : Nat) : Int))]) (rest := []) 8 rfl rfl ⟨rfl, rfl⟩ (by omega) (zs_X9_needLand_n (s := s) (z := (((v : Nat) : Int))) (by omega) (by first | assumption | exact ⟨by omega, by omega⟩) (by first | assumption | omega)) (fun v t q9 => by cases q9.1) (fun E9 t q9 => ?_)
          obtain ⟨q8, q9⟩ := q9
          cases q8
          rw [q9]
          have e : zq_way S 0 ((f : Nat) : Int) ((v : Nat) : Int) = (1, 0) := by
            simp only [zq_way, Int.toNat_natCast]
            first | (rw [if_pos (by omega)]) | (rw [if_neg (by omega), if_pos (by omega)]) | (rw [if_neg (by omega), if_neg (by omega), if_pos (by omega)]) | (rw [if_neg (by omega), if_neg (by omega), if_neg (by omega), if_pos (by omega)])
          rw [e]
          exact ⟨rfl, zFq_r _⟩
      · skip
        refine az_cl (m2 := am_m_X9_needLand) (as := [az_i (zv)]) (rest := []) 8 rfl rfl ⟨rfl, rfl⟩ (by omega) (zs_X9_needLand_n (s := s) (z := zv) (by omega) (by first | assumption | exact ⟨by omega, by omega⟩) (by first | assumption | omega)) (fun v t q9 => by cases q9.1) (fun E9 t q9 => ?_)
        obtain ⟨q8, q9⟩ := q9
        cases q8
        rw [q9]
        have e : zq_way S 0 ((f : Nat) : Int) zv = (1, 0) := by
          simp only [zq_way, Int.toNat_natCast]
          first | (rw [if_pos (by omega)]) | (rw [if_neg (by omega), if_pos (by omega)]) | (rw [if_neg (by omega), if_neg (by omega), if_pos (by omega)]) | (rw [if_neg (by omega), if_neg (by omega), if_neg (by omega), if_pos (by omega)])
        rw [e]
        exact ⟨rfl, zFq_r _⟩
    · skip
      refine az_cl (m2 := am_m_X9_needLand) (as := [az_i (((f : Nat) : Int))]) (rest := []) 4 rfl rfl ⟨rfl, rfl⟩ (by omega) (zs_X9_needLand_n (s := s) (z := (((f : Nat) : Int))) (by omega) (by first | assumption | exact ⟨by omega, by omega⟩) (by first | assumption | omega)) (fun v t q9 => by cases q9.1) (fun E9 t q9 => ?_)
      obtain ⟨q8, q9⟩ := q9
      cases q8
      rw [q9]
      have e : zq_way S 0 ((f : Nat) : Int) zv = (1, 0) := by
        simp only [zq_way, Int.toNat_natCast]
        first | (rw [if_pos (by omega)]) | (rw [if_neg (by omega), if_pos (by omega)]) | (rw [if_neg (by omega), if_neg (by omega), if_pos (by omega)]) | (rw [if_neg (by omega), if_neg (by omega), if_neg (by omega), if_pos (by omega)])
      rw [e]
      exact ⟨rfl, zFq_r _⟩
  · skip
    refine az_cl (m2 := am_m_X9_needLand) (as := [az_i (zf0)]) (rest := []) 4 rfl rfl ⟨rfl, rfl⟩ (by omega) (zs_X9_needLand_n (s := s) (z := zf0) (by omega) (by first | assumption | exact ⟨by omega, by omega⟩) (by first | assumption | omega)) (fun v t q9 => by cases q9.1) (fun E9 t q9 => ?_)
    obtain ⟨q8, q9⟩ := q9
    cases q8
    rw [q9]
    have e : zq_way S 0 zf0 zv = (1, 0) := by
      simp only [zq_way, Int.toNat_natCast]
      first | (rw [if_pos (by omega)]) | (rw [if_neg (by omega), if_pos (by omega)]) | (rw [if_neg (by omega), if_neg (by omega), if_pos (by omega)]) | (rw [if_neg (by omega), if_neg (by omega), if_neg (by omega), if_pos (by omega)])
    rw [e]
    exact ⟨rfl, zFq_r _⟩
set_option maxRecDepth 100000 in
set_option maxHeartbeats 800000 in
theorem zs_X9_cheapestAgain {d : Nat} {s : az_S} (hd : 7 ≤ d) {S : zR} {h : Nat} (hR : zRel (s 3) S) (hI : zInv S h) (hh : h ≤ 10000) {zf0 : Int} {zv : Int} (h_zf0 : az_in zf0) (h_zv : az_in zv) : az_R d am_m_X9_cheapestAgain 0 (az_ini (am_mL am_m_X9_cheapestAgain) [az_r 0, az_i (zf0), az_i (zv)]) [] (s) (fun o t => o = zoe [3, 5] (zq_way S 0 zf0 zv) ∧ zFq s t) := by
  have hz := zI_h hI hh
  refine az_to 0 (pc2 := 0) (lv2 := [some (az_r 0), some (az_i (zf0)), some (az_i (zv))]) (st2 := []) (s2 := s) rfl ?_
  refine az_to 1 (pc2 := 1) (lv2 := [some (az_r 0), some (az_i (zf0)), some (az_i (zv))]) (st2 := [az_i (zf0)]) (s2 := s) rfl ?_
  by_cases h1 : 0 ≤ zf0 ∧ zf0 ≤ 5
  · skip
    obtain ⟨f, rfl⟩ : ∃ n0 : Nat, zf0 = n0 := ⟨zf0.toNat, by omega⟩
    refine az_to 0 (pc2 := 1) (lv2 := [some (az_r 0), some (az_i (((f : Nat) : Int))), some (az_i (zv))]) (st2 := [az_i (((f : Nat) : Int))]) (s2 := s) (rfl) ?_
    by_cases h2 : 0 ≤ (((f : Nat) : Int)) ∧ (((f : Nat) : Int)) ≤ 5
    · skip
      refine az_clv (v := none) (t := s) (m2 := am_m_X9_needLand) (as := [az_i (((f : Nat) : Int))]) (rest := []) 4 rfl rfl ⟨rfl, rfl⟩ (by omega) (zs_X9_needLand_y (s := s) (z := (((f : Nat) : Int))) (by omega) (by first | assumption | exact ⟨by omega, by omega⟩) (by first | assumption | omega)) ?_
      refine az_to 0 (pc2 := 4) (lv2 := [some (az_r 0), some (az_i (((f : Nat) : Int))), some (az_i (zv))]) (st2 := []) (s2 := s) rfl ?_
      refine az_to 1 (pc2 := 5) (lv2 := [some (az_r 0), some (az_i (((f : Nat) : Int))), some (az_i (zv))]) (st2 := [az_i (zv)]) (s2 := s) rfl ?_
      by_cases h3 : 0 ≤ zv ∧ zv ≤ 5
      · skip
        obtain ⟨v, rfl⟩ : ∃ n0 : Nat, zv = n0 := ⟨zv.toNat, by omega⟩
        refine az_to 0 (pc2 := 5) (lv2 := [some (az_r 0), some (az_i (((f : Nat) : Int))), some (az_i (((v : Nat) : Int)))]) (st2 := [az_i (((v : Nat) : Int))]) (s2 := s) (rfl) ?_
        by_cases h4 : 0 ≤ (((v : Nat) : Int)) ∧ (((v : Nat) : Int)) ≤ 5
        · skip
          refine az_clv (v := none) (t := s) (m2 := am_m_X9_needLand) (as := [az_i (((v : Nat) : Int))]) (rest := []) 8 rfl rfl ⟨rfl, rfl⟩ (by omega) (zs_X9_needLand_y (s := s) (z := (((v : Nat) : Int))) (by omega) (by first | assumption | exact ⟨by omega, by omega⟩) (by first | assumption | omega)) ?_
          refine az_to 0 (pc2 := 8) (lv2 := [some (az_r 0), some (az_i (((f : Nat) : Int))), some (az_i (((v : Nat) : Int)))]) (st2 := []) (s2 := s) rfl ?_
          refine az_to 3 (pc2 := 13) (lv2 := [some (az_r 0), some (az_i (((f : Nat) : Int))), some (az_i (((v : Nat) : Int)))]) (st2 := [az_i (0), az_r 6]) (s2 := s) rfl ?_
          refine az_cl (m2 := am_m_X7_measure) (as := [az_r 6, az_i (0)]) (rest := []) 16 rfl rfl ⟨rfl, rfl⟩ (by omega) (zs_X7_measure_0 (s := s)  (by omega) hR hI hh) (fun v5 t5 q5 => ?_) (fun E t5 q5 => by cases q5.1)
          obtain ⟨o5, ff5, gg5⟩ := q5
          cases o5
          refine az_to 0 (pc2 := 16) (lv2 := [some (az_r 0), some (az_i (((f : Nat) : Int))), some (az_i (((v : Nat) : Int)))]) (st2 := []) (s2 := t5) rfl ?_
          have hRm : zRel (t5 3) S := by rw [gg5 3 (by decide)]; exact hR
          have hLm : ∀ b, b < zn S 0 → t5 8 b = zln S 0 b := ff5
          refine az_to 4 (pc2 := 22) (lv2 := [some (az_r 0), some (az_i (((f : Nat) : Int))), some (az_i (((v : Nat) : Int)))]) (st2 := [az_i (((v : Nat) : Int)), az_i (((f : Nat) : Int)), az_r 6]) (s2 := t5) rfl ?_
          refine az_cl (m2 := am_m_X7_bridgeByBridge) (as := [az_r 6, az_i (((f : Nat) : Int)), az_i (((v : Nat) : Int))]) (rest := []) 25 rfl rfl ⟨rfl, rfl⟩ (by omega) (zs_X7_bridgeByBridge (s := t5) (f := f) (v := v) (by omega) hRm hI hh hLm (by omega) (by omega)) (fun v6 t6 q6 => ?_) (fun E t6 q6 => by cases q6.1)
          obtain ⟨o6, ff6, gg6⟩ := q6
          cases o6
          refine az_to 0 (pc2 := 25) (lv2 := [some (az_r 0), some (az_i (((f : Nat) : Int))), some (az_i (((v : Nat) : Int)))]) (st2 := [az_i (zwy S 0 f v)]) (s2 := t6) rfl ?_
          have hwr := zwy_r (S := S) (m := 0) (f := f) (v := v) ⟨_, ff6⟩ (by omega)
          by_cases h7 : ¬ (zwy S 0 f v) = -1
          · skip
            refine az_clv (v := some (az_i ((zwy S 0 f v)))) (t := t6) (m2 := am_m_X9_needWay) (as := [az_i (zwy S 0 f v)]) (rest := []) 28 rfl rfl ⟨rfl, rfl⟩ (by omega) (zs_X9_needWay_y (s := t6) (z := (zwy S 0 f v)) (by omega) (by first | assumption | exact ⟨by omega, by omega⟩) (by first | assumption | omega)) ?_
            refine az_to 0 (pc2 := 28) (lv2 := [some (az_r 0), some (az_i (((f : Nat) : Int))), some (az_i (((v : Nat) : Int)))]) (st2 := [az_i ((zwy S 0 f v))]) (s2 := t6) rfl ?_
            refine az_retI rfl rfl ?_
            have e : zq_way S 0 ((f : Nat) : Int) ((v : Nat) : Int) = (0, (zwy S 0 f v)) := by
              simp only [zq_way, Int.toNat_natCast]
              rw [if_neg (by omega), if_neg (by omega)]
            rw [e]
            exact ⟨rfl, fun i i8 i10 i12 i14 i16 => by rw [gg6 i (by assumption), gg5 i i8]⟩
          · skip
            refine az_cl (m2 := am_m_X9_needWay) (as := [az_i (zwy S 0 f v)]) (rest := []) 28 rfl rfl ⟨rfl, rfl⟩ (by omega) (zs_X9_needWay_n (s := t6) (z := (zwy S 0 f v)) (by omega) (by first | assumption | exact ⟨by omega, by omega⟩) (by first | assumption | omega)) (fun v t q9 => by cases q9.1) (fun E9 t q9 => ?_)
            obtain ⟨q8, q9⟩ := q9
            cases q8
            rw [q9]
            have e : zq_way S 0 ((f : Nat) : Int) ((v : Nat) : Int) = (2, 0) := by
              simp only [zq_way, Int.toNat_natCast]
              first | (rw [if_pos (by omega)]) | (rw [if_neg (by omega), if_pos (by omega)]) | (rw [if_neg (by omega), if_neg (by omega), if_pos (by omega)]) | (rw [if_neg (by omega), if_neg (by omega), if_neg (by omega), if_pos (by omega)])
            rw [e]
            exact ⟨rfl, fun i i8 i10 i12 i14 i16 => by rw [gg6 i (by assumption), gg5 i i8]⟩
        · skip
          refine az_cl (m2 := am_m_X9_needLand) (as := [az_i (((v : Nat) : Int))]) (rest := []) 8 rfl rfl ⟨rfl, rfl⟩ (by omega) (zs_X9_needLand_n (s := s) (z := (((v : Nat) : Int))) (by omega) (by first | assumption | exact ⟨by omega, by omega⟩) (by first | assumption | omega)) (fun v t q9 => by cases q9.1) (fun E9 t q9 => ?_)
          obtain ⟨q8, q9⟩ := q9
          cases q8
          rw [q9]
          have e : zq_way S 0 ((f : Nat) : Int) ((v : Nat) : Int) = (1, 0) := by
            simp only [zq_way, Int.toNat_natCast]
            first | (rw [if_pos (by omega)]) | (rw [if_neg (by omega), if_pos (by omega)]) | (rw [if_neg (by omega), if_neg (by omega), if_pos (by omega)]) | (rw [if_neg (by omega), if_neg (by omega), if_neg (by omega), if_pos (by omega)])
          rw [e]
          exact ⟨rfl, zFq_r _⟩
      · skip
        refine az_cl (m2 := am_m_X9_needLand) (as := [az_i (zv)]) (rest := []) 8 rfl rfl ⟨rfl, rfl⟩ (by omega) (zs_X9_needLand_n (s := s) (z := zv) (by omega) (by first | assumption | exact ⟨by omega, by omega⟩) (by first | assumption | omega)) (fun v t q9 => by cases q9.1) (fun E9 t q9 => ?_)
        obtain ⟨q8, q9⟩ := q9
        cases q8
        rw [q9]
        have e : zq_way S 0 ((f : Nat) : Int) zv = (1, 0) := by
          simp only [zq_way, Int.toNat_natCast]
          first | (rw [if_pos (by omega)]) | (rw [if_neg (by omega), if_pos (by omega)]) | (rw [if_neg (by omega), if_neg (by omega), if_pos (by omega)]) | (rw [if_neg (by omega), if_neg (by omega), if_neg (by omega), if_pos (by omega)])
        rw [e]
        exact ⟨rfl, zFq_r _⟩
    · skip
      refine az_cl (m2 := am_m_X9_needLand) (as := [az_i (((f : Nat) : Int))]) (rest := []) 4 rfl rfl ⟨rfl, rfl⟩ (by omega) (zs_X9_needLand_n (s := s) (z := (((f : Nat) : Int))) (by omega) (by first | assumption | exact ⟨by omega, by omega⟩) (by first | assumption | omega)) (fun v t q9 => by cases q9.1) (fun E9 t q9 => ?_)
      obtain ⟨q8, q9⟩ := q9
      cases q8
      rw [q9]
      have e : zq_way S 0 ((f : Nat) : Int) zv = (1, 0) := by
        simp only [zq_way, Int.toNat_natCast]
        first | (rw [if_pos (by omega)]) | (rw [if_neg (by omega), if_pos (by omega)]) | (rw [if_neg (by omega), if_neg (by omega), if_pos (by omega)]) | (rw [if_neg (by omega), if_neg (by omega), if_neg (by omega), if_pos (by omega)])
      rw [e]
      exact ⟨rfl, zFq_r _⟩
  · skip
    refine az_cl (m2 := am_m_X9_needLand) (as := [az_i (zf0)]) (rest := []) 4 rfl rfl ⟨rfl, rfl⟩ (by omega) (zs_X9_needLand_n (s := s) (z := zf0) (by omega) (by first | assumption | exact ⟨by omega, by omega⟩) (by first | assumption | omega)) (fun v t q9 => by cases q9.1) (fun E9 t q9 => ?_)
    obtain ⟨q8, q9⟩ := q9
    cases q8
    rw [q9]
    have e : zq_way S 0 zf0 zv = (1, 0) := by
      simp only [zq_way, Int.toNat_natCast]
      first | (rw [if_pos (by omega)]) | (rw [if_neg (by omega), if_pos (by omega)]) | (rw [if_neg (by omega), if_neg (by omega), if_pos (by omega)]) | (rw [if_neg (by omega), if_neg (by omega), if_neg (by omega), if_pos (by omega)])
    rw [e]
    exact ⟨rfl, zFq_r _⟩
set_option maxRecDepth 100000 in
set_option maxHeartbeats 800000 in
theorem zs_X9_fastest {d : Nat} {s : az_S} (hd : 7 ≤ d) {S : zR} {h : Nat} (hR : zRel (s 3) S) (hI : zInv S h) (hh : h ≤ 10000) {zf0 : Int} {zv : Int} (h_zf0 : az_in zf0) (h_zv : az_in zv) : az_R d am_m_X9_fastest 0 (az_ini (am_mL am_m_X9_fastest) [az_r 0, az_i (zf0), az_i (zv)]) [] (s) (fun o t => o = zoe [3, 5] (zq_way S 1 zf0 zv) ∧ zFq s t) := by
  have hz := zI_h hI hh
  refine az_to 0 (pc2 := 0) (lv2 := [some (az_r 0), some (az_i (zf0)), some (az_i (zv))]) (st2 := []) (s2 := s) rfl ?_
  refine az_to 1 (pc2 := 1) (lv2 := [some (az_r 0), some (az_i (zf0)), some (az_i (zv))]) (st2 := [az_i (zf0)]) (s2 := s) rfl ?_
  by_cases h1 : 0 ≤ zf0 ∧ zf0 ≤ 5
  · skip
    obtain ⟨f, rfl⟩ : ∃ n0 : Nat, zf0 = n0 := ⟨zf0.toNat, by omega⟩
    refine az_to 0 (pc2 := 1) (lv2 := [some (az_r 0), some (az_i (((f : Nat) : Int))), some (az_i (zv))]) (st2 := [az_i (((f : Nat) : Int))]) (s2 := s) (rfl) ?_
    by_cases h2 : 0 ≤ (((f : Nat) : Int)) ∧ (((f : Nat) : Int)) ≤ 5
    · skip
      refine az_clv (v := none) (t := s) (m2 := am_m_X9_needLand) (as := [az_i (((f : Nat) : Int))]) (rest := []) 4 rfl rfl ⟨rfl, rfl⟩ (by omega) (zs_X9_needLand_y (s := s) (z := (((f : Nat) : Int))) (by omega) (by first | assumption | exact ⟨by omega, by omega⟩) (by first | assumption | omega)) ?_
      refine az_to 0 (pc2 := 4) (lv2 := [some (az_r 0), some (az_i (((f : Nat) : Int))), some (az_i (zv))]) (st2 := []) (s2 := s) rfl ?_
      refine az_to 1 (pc2 := 5) (lv2 := [some (az_r 0), some (az_i (((f : Nat) : Int))), some (az_i (zv))]) (st2 := [az_i (zv)]) (s2 := s) rfl ?_
      by_cases h3 : 0 ≤ zv ∧ zv ≤ 5
      · skip
        obtain ⟨v, rfl⟩ : ∃ n0 : Nat, zv = n0 := ⟨zv.toNat, by omega⟩
        refine az_to 0 (pc2 := 5) (lv2 := [some (az_r 0), some (az_i (((f : Nat) : Int))), some (az_i (((v : Nat) : Int)))]) (st2 := [az_i (((v : Nat) : Int))]) (s2 := s) (rfl) ?_
        by_cases h4 : 0 ≤ (((v : Nat) : Int)) ∧ (((v : Nat) : Int)) ≤ 5
        · skip
          refine az_clv (v := none) (t := s) (m2 := am_m_X9_needLand) (as := [az_i (((v : Nat) : Int))]) (rest := []) 8 rfl rfl ⟨rfl, rfl⟩ (by omega) (zs_X9_needLand_y (s := s) (z := (((v : Nat) : Int))) (by omega) (by first | assumption | exact ⟨by omega, by omega⟩) (by first | assumption | omega)) ?_
          refine az_to 0 (pc2 := 8) (lv2 := [some (az_r 0), some (az_i (((f : Nat) : Int))), some (az_i (((v : Nat) : Int)))]) (st2 := []) (s2 := s) rfl ?_
          refine az_to 3 (pc2 := 13) (lv2 := [some (az_r 0), some (az_i (((f : Nat) : Int))), some (az_i (((v : Nat) : Int)))]) (st2 := [az_i (1), az_r 6]) (s2 := s) rfl ?_
          refine az_cl (m2 := am_m_X7_measure) (as := [az_r 6, az_i (1)]) (rest := []) 16 rfl rfl ⟨rfl, rfl⟩ (by omega) (zs_X7_measure_1 (s := s)  (by omega) hR hI hh) (fun v5 t5 q5 => ?_) (fun E t5 q5 => by cases q5.1)
          obtain ⟨o5, ff5, gg5⟩ := q5
          cases o5
          refine az_to 0 (pc2 := 16) (lv2 := [some (az_r 0), some (az_i (((f : Nat) : Int))), some (az_i (((v : Nat) : Int)))]) (st2 := []) (s2 := t5) rfl ?_
          have hRm : zRel (t5 3) S := by rw [gg5 3 (by decide)]; exact hR
          have hLm : ∀ b, b < zn S 0 → t5 8 b = zln S 1 b := ff5
          refine az_to 4 (pc2 := 22) (lv2 := [some (az_r 0), some (az_i (((f : Nat) : Int))), some (az_i (((v : Nat) : Int)))]) (st2 := [az_i (((v : Nat) : Int)), az_i (((f : Nat) : Int)), az_r 6]) (s2 := t5) rfl ?_
          refine az_cl (m2 := am_m_X7_landByLand) (as := [az_r 6, az_i (((f : Nat) : Int)), az_i (((v : Nat) : Int))]) (rest := []) 25 rfl rfl ⟨rfl, rfl⟩ (by omega) (zs_X7_landByLand (s := t5) (f := f) (v := v) (by omega) hRm hI hh hLm (by omega) (by omega)) (fun v6 t6 q6 => ?_) (fun E t6 q6 => by cases q6.1)
          obtain ⟨o6, ff6, gg6⟩ := q6
          cases o6
          refine az_to 0 (pc2 := 25) (lv2 := [some (az_r 0), some (az_i (((f : Nat) : Int))), some (az_i (((v : Nat) : Int)))]) (st2 := [az_i (zwy S 1 f v)]) (s2 := t6) rfl ?_
          have hwr := zwy_r (S := S) (m := 1) (f := f) (v := v) ⟨_, ff6⟩ (by omega)
          have hRw : zRel (t6 3) S := by rw [gg6 3 (by decide) (by decide)]; exact hRm
          have hLw : ∀ b, b < zn S 0 → t6 8 b = zln S 1 b := fun b hb => by rw [gg6 8 (by decide) (by decide)]; exact hLm b hb
          by_cases h7 : ¬ (zwy S 1 f v) = -1
          · skip
            refine az_clv (v := some (az_i ((zwy S 1 f v)))) (t := t6) (m2 := am_m_X9_needWay) (as := [az_i (zwy S 1 f v)]) (rest := []) 28 rfl rfl ⟨rfl, rfl⟩ (by omega) (zs_X9_needWay_y (s := t6) (z := (zwy S 1 f v)) (by omega) (by first | assumption | exact ⟨by omega, by omega⟩) (by first | assumption | omega)) ?_
            refine az_to 0 (pc2 := 28) (lv2 := [some (az_r 0), some (az_i (((f : Nat) : Int))), some (az_i (((v : Nat) : Int)))]) (st2 := [az_i ((zwy S 1 f v))]) (s2 := t6) rfl ?_
            refine az_retI rfl rfl ?_
            have e : zq_way S 1 ((f : Nat) : Int) ((v : Nat) : Int) = (0, (zwy S 1 f v)) := by
              simp only [zq_way, Int.toNat_natCast]
              rw [if_neg (by omega), if_neg (by omega)]
            rw [e]
            exact ⟨rfl, fun i i8 i10 i12 i14 i16 => by rw [gg6 i (by assumption) (by assumption), gg5 i i8]⟩
          · skip
            refine az_cl (m2 := am_m_X9_needWay) (as := [az_i (zwy S 1 f v)]) (rest := []) 28 rfl rfl ⟨rfl, rfl⟩ (by omega) (zs_X9_needWay_n (s := t6) (z := (zwy S 1 f v)) (by omega) (by first | assumption | exact ⟨by omega, by omega⟩) (by first | assumption | omega)) (fun v t q9 => by cases q9.1) (fun E9 t q9 => ?_)
            obtain ⟨q8, q9⟩ := q9
            cases q8
            rw [q9]
            have e : zq_way S 1 ((f : Nat) : Int) ((v : Nat) : Int) = (2, 0) := by
              simp only [zq_way, Int.toNat_natCast]
              first | (rw [if_pos (by omega)]) | (rw [if_neg (by omega), if_pos (by omega)]) | (rw [if_neg (by omega), if_neg (by omega), if_pos (by omega)]) | (rw [if_neg (by omega), if_neg (by omega), if_neg (by omega), if_pos (by omega)])
            rw [e]
            exact ⟨rfl, fun i i8 i10 i12 i14 i16 => by rw [gg6 i (by assumption) (by assumption), gg5 i i8]⟩
        · skip
          refine az_cl (m2 := am_m_X9_needLand) (as := [az_i (((v : Nat) : Int))]) (rest := []) 8 rfl rfl ⟨rfl, rfl⟩ (by omega) (zs_X9_needLand_n (s := s) (z := (((v : Nat) : Int))) (by omega) (by first | assumption | exact ⟨by omega, by omega⟩) (by first | assumption | omega)) (fun v t q9 => by cases q9.1) (fun E9 t q9 => ?_)
          obtain ⟨q8, q9⟩ := q9
          cases q8
          rw [q9]
          have e : zq_way S 1 ((f : Nat) : Int) ((v : Nat) : Int) = (1, 0) := by
            simp only [zq_way, Int.toNat_natCast]
            first | (rw [if_pos (by omega)]) | (rw [if_neg (by omega), if_pos (by omega)]) | (rw [if_neg (by omega), if_neg (by omega), if_pos (by omega)]) | (rw [if_neg (by omega), if_neg (by omega), if_neg (by omega), if_pos (by omega)])
          rw [e]
          exact ⟨rfl, zFq_r _⟩
      · skip
        refine az_cl (m2 := am_m_X9_needLand) (as := [az_i (zv)]) (rest := []) 8 rfl rfl ⟨rfl, rfl⟩ (by omega) (zs_X9_needLand_n (s := s) (z := zv) (by omega) (by first | assumption | exact ⟨by omega, by omega⟩) (by first | assumption | omega)) (fun v t q9 => by cases q9.1) (fun E9 t q9 => ?_)
        obtain ⟨q8, q9⟩ := q9
        cases q8
        rw [q9]
        have e : zq_way S 1 ((f : Nat) : Int) zv = (1, 0) := by
          simp only [zq_way, Int.toNat_natCast]
          first | (rw [if_pos (by omega)]) | (rw [if_neg (by omega), if_pos (by omega)]) | (rw [if_neg (by omega), if_neg (by omega), if_pos (by omega)]) | (rw [if_neg (by omega), if_neg (by omega), if_neg (by omega), if_pos (by omega)])
        rw [e]
        exact ⟨rfl, zFq_r _⟩
    · skip
      refine az_cl (m2 := am_m_X9_needLand) (as := [az_i (((f : Nat) : Int))]) (rest := []) 4 rfl rfl ⟨rfl, rfl⟩ (by omega) (zs_X9_needLand_n (s := s) (z := (((f : Nat) : Int))) (by omega) (by first | assumption | exact ⟨by omega, by omega⟩) (by first | assumption | omega)) (fun v t q9 => by cases q9.1) (fun E9 t q9 => ?_)
      obtain ⟨q8, q9⟩ := q9
      cases q8
      rw [q9]
      have e : zq_way S 1 ((f : Nat) : Int) zv = (1, 0) := by
        simp only [zq_way, Int.toNat_natCast]
        first | (rw [if_pos (by omega)]) | (rw [if_neg (by omega), if_pos (by omega)]) | (rw [if_neg (by omega), if_neg (by omega), if_pos (by omega)]) | (rw [if_neg (by omega), if_neg (by omega), if_neg (by omega), if_pos (by omega)])
      rw [e]
      exact ⟨rfl, zFq_r _⟩
  · skip
    refine az_cl (m2 := am_m_X9_needLand) (as := [az_i (zf0)]) (rest := []) 4 rfl rfl ⟨rfl, rfl⟩ (by omega) (zs_X9_needLand_n (s := s) (z := zf0) (by omega) (by first | assumption | exact ⟨by omega, by omega⟩) (by first | assumption | omega)) (fun v t q9 => by cases q9.1) (fun E9 t q9 => ?_)
    obtain ⟨q8, q9⟩ := q9
    cases q8
    rw [q9]
    have e : zq_way S 1 zf0 zv = (1, 0) := by
      simp only [zq_way, Int.toNat_natCast]
      first | (rw [if_pos (by omega)]) | (rw [if_neg (by omega), if_pos (by omega)]) | (rw [if_neg (by omega), if_neg (by omega), if_pos (by omega)]) | (rw [if_neg (by omega), if_neg (by omega), if_neg (by omega), if_pos (by omega)])
    rw [e]
    exact ⟨rfl, zFq_r _⟩
set_option maxRecDepth 100000 in
set_option maxHeartbeats 800000 in
theorem zs_X9_fastestAgain {d : Nat} {s : az_S} (hd : 7 ≤ d) {S : zR} {h : Nat} (hR : zRel (s 3) S) (hI : zInv S h) (hh : h ≤ 10000) {zf0 : Int} {zv : Int} (h_zf0 : az_in zf0) (h_zv : az_in zv) : az_R d am_m_X9_fastestAgain 0 (az_ini (am_mL am_m_X9_fastestAgain) [az_r 0, az_i (zf0), az_i (zv)]) [] (s) (fun o t => o = zoe [3, 5] (zq_way S 1 zf0 zv) ∧ zFq s t) := by
  have hz := zI_h hI hh
  refine az_to 0 (pc2 := 0) (lv2 := [some (az_r 0), some (az_i (zf0)), some (az_i (zv))]) (st2 := []) (s2 := s) rfl ?_
  refine az_to 1 (pc2 := 1) (lv2 := [some (az_r 0), some (az_i (zf0)), some (az_i (zv))]) (st2 := [az_i (zf0)]) (s2 := s) rfl ?_
  by_cases h1 : 0 ≤ zf0 ∧ zf0 ≤ 5
  · skip
    obtain ⟨f, rfl⟩ : ∃ n0 : Nat, zf0 = n0 := ⟨zf0.toNat, by omega⟩
    refine az_to 0 (pc2 := 1) (lv2 := [some (az_r 0), some (az_i (((f : Nat) : Int))), some (az_i (zv))]) (st2 := [az_i (((f : Nat) : Int))]) (s2 := s) (rfl) ?_
    by_cases h2 : 0 ≤ (((f : Nat) : Int)) ∧ (((f : Nat) : Int)) ≤ 5
    · skip
      refine az_clv (v := none) (t := s) (m2 := am_m_X9_needLand) (as := [az_i (((f : Nat) : Int))]) (rest := []) 4 rfl rfl ⟨rfl, rfl⟩ (by omega) (zs_X9_needLand_y (s := s) (z := (((f : Nat) : Int))) (by omega) (by first | assumption | exact ⟨by omega, by omega⟩) (by first | assumption | omega)) ?_
      refine az_to 0 (pc2 := 4) (lv2 := [some (az_r 0), some (az_i (((f : Nat) : Int))), some (az_i (zv))]) (st2 := []) (s2 := s) rfl ?_
      refine az_to 1 (pc2 := 5) (lv2 := [some (az_r 0), some (az_i (((f : Nat) : Int))), some (az_i (zv))]) (st2 := [az_i (zv)]) (s2 := s) rfl ?_
      by_cases h3 : 0 ≤ zv ∧ zv ≤ 5
      · skip
        obtain ⟨v, rfl⟩ : ∃ n0 : Nat, zv = n0 := ⟨zv.toNat, by omega⟩
        refine az_to 0 (pc2 := 5) (lv2 := [some (az_r 0), some (az_i (((f : Nat) : Int))), some (az_i (((v : Nat) : Int)))]) (st2 := [az_i (((v : Nat) : Int))]) (s2 := s) (rfl) ?_
        by_cases h4 : 0 ≤ (((v : Nat) : Int)) ∧ (((v : Nat) : Int)) ≤ 5
        · skip
          refine az_clv (v := none) (t := s) (m2 := am_m_X9_needLand) (as := [az_i (((v : Nat) : Int))]) (rest := []) 8 rfl rfl ⟨rfl, rfl⟩ (by omega) (zs_X9_needLand_y (s := s) (z := (((v : Nat) : Int))) (by omega) (by first | assumption | exact ⟨by omega, by omega⟩) (by first | assumption | omega)) ?_
          refine az_to 0 (pc2 := 8) (lv2 := [some (az_r 0), some (az_i (((f : Nat) : Int))), some (az_i (((v : Nat) : Int)))]) (st2 := []) (s2 := s) rfl ?_
          refine az_to 3 (pc2 := 13) (lv2 := [some (az_r 0), some (az_i (((f : Nat) : Int))), some (az_i (((v : Nat) : Int)))]) (st2 := [az_i (1), az_r 6]) (s2 := s) rfl ?_
          refine az_cl (m2 := am_m_X7_measure) (as := [az_r 6, az_i (1)]) (rest := []) 16 rfl rfl ⟨rfl, rfl⟩ (by omega) (zs_X7_measure_1 (s := s)  (by omega) hR hI hh) (fun v5 t5 q5 => ?_) (fun E t5 q5 => by cases q5.1)
          obtain ⟨o5, ff5, gg5⟩ := q5
          cases o5
          refine az_to 0 (pc2 := 16) (lv2 := [some (az_r 0), some (az_i (((f : Nat) : Int))), some (az_i (((v : Nat) : Int)))]) (st2 := []) (s2 := t5) rfl ?_
          have hRm : zRel (t5 3) S := by rw [gg5 3 (by decide)]; exact hR
          have hLm : ∀ b, b < zn S 0 → t5 8 b = zln S 1 b := ff5
          refine az_to 4 (pc2 := 22) (lv2 := [some (az_r 0), some (az_i (((f : Nat) : Int))), some (az_i (((v : Nat) : Int)))]) (st2 := [az_i (((v : Nat) : Int)), az_i (((f : Nat) : Int)), az_r 6]) (s2 := t5) rfl ?_
          refine az_cl (m2 := am_m_X7_bridgeByBridge) (as := [az_r 6, az_i (((f : Nat) : Int)), az_i (((v : Nat) : Int))]) (rest := []) 25 rfl rfl ⟨rfl, rfl⟩ (by omega) (zs_X7_bridgeByBridge (s := t5) (f := f) (v := v) (by omega) hRm hI hh hLm (by omega) (by omega)) (fun v6 t6 q6 => ?_) (fun E t6 q6 => by cases q6.1)
          obtain ⟨o6, ff6, gg6⟩ := q6
          cases o6
          refine az_to 0 (pc2 := 25) (lv2 := [some (az_r 0), some (az_i (((f : Nat) : Int))), some (az_i (((v : Nat) : Int)))]) (st2 := [az_i (zwy S 1 f v)]) (s2 := t6) rfl ?_
          have hwr := zwy_r (S := S) (m := 1) (f := f) (v := v) ⟨_, ff6⟩ (by omega)
          by_cases h7 : ¬ (zwy S 1 f v) = -1
          · skip
            refine az_clv (v := some (az_i ((zwy S 1 f v)))) (t := t6) (m2 := am_m_X9_needWay) (as := [az_i (zwy S 1 f v)]) (rest := []) 28 rfl rfl ⟨rfl, rfl⟩ (by omega) (zs_X9_needWay_y (s := t6) (z := (zwy S 1 f v)) (by omega) (by first | assumption | exact ⟨by omega, by omega⟩) (by first | assumption | omega)) ?_
            refine az_to 0 (pc2 := 28) (lv2 := [some (az_r 0), some (az_i (((f : Nat) : Int))), some (az_i (((v : Nat) : Int)))]) (st2 := [az_i ((zwy S 1 f v))]) (s2 := t6) rfl ?_
            refine az_retI rfl rfl ?_
            have e : zq_way S 1 ((f : Nat) : Int) ((v : Nat) : Int) = (0, (zwy S 1 f v)) := by
              simp only [zq_way, Int.toNat_natCast]
              rw [if_neg (by omega), if_neg (by omega)]
            rw [e]
            exact ⟨rfl, fun i i8 i10 i12 i14 i16 => by rw [gg6 i (by assumption), gg5 i i8]⟩
          · skip
            refine az_cl (m2 := am_m_X9_needWay) (as := [az_i (zwy S 1 f v)]) (rest := []) 28 rfl rfl ⟨rfl, rfl⟩ (by omega) (zs_X9_needWay_n (s := t6) (z := (zwy S 1 f v)) (by omega) (by first | assumption | exact ⟨by omega, by omega⟩) (by first | assumption | omega)) (fun v t q9 => by cases q9.1) (fun E9 t q9 => ?_)
            obtain ⟨q8, q9⟩ := q9
            cases q8
            rw [q9]
            have e : zq_way S 1 ((f : Nat) : Int) ((v : Nat) : Int) = (2, 0) := by
              simp only [zq_way, Int.toNat_natCast]
              first | (rw [if_pos (by omega)]) | (rw [if_neg (by omega), if_pos (by omega)]) | (rw [if_neg (by omega), if_neg (by omega), if_pos (by omega)]) | (rw [if_neg (by omega), if_neg (by omega), if_neg (by omega), if_pos (by omega)])
            rw [e]
            exact ⟨rfl, fun i i8 i10 i12 i14 i16 => by rw [gg6 i (by assumption), gg5 i i8]⟩
        · skip
          refine az_cl (m2 := am_m_X9_needLand) (as := [az_i (((v : Nat) : Int))]) (rest := []) 8 rfl rfl ⟨rfl, rfl⟩ (by omega) (zs_X9_needLand_n (s := s) (z := (((v : Nat) : Int))) (by omega) (by first | assumption | exact ⟨by omega, by omega⟩) (by first | assumption | omega)) (fun v t q9 => by cases q9.1) (fun E9 t q9 => ?_)
          obtain ⟨q8, q9⟩ := q9
          cases q8
          rw [q9]
          have e : zq_way S 1 ((f : Nat) : Int) ((v : Nat) : Int) = (1, 0) := by
            simp only [zq_way, Int.toNat_natCast]
            first | (rw [if_pos (by omega)]) | (rw [if_neg (by omega), if_pos (by omega)]) | (rw [if_neg (by omega), if_neg (by omega), if_pos (by omega)]) | (rw [if_neg (by omega), if_neg (by omega), if_neg (by omega), if_pos (by omega)])
          rw [e]
          exact ⟨rfl, zFq_r _⟩
      · skip
        refine az_cl (m2 := am_m_X9_needLand) (as := [az_i (zv)]) (rest := []) 8 rfl rfl ⟨rfl, rfl⟩ (by omega) (zs_X9_needLand_n (s := s) (z := zv) (by omega) (by first | assumption | exact ⟨by omega, by omega⟩) (by first | assumption | omega)) (fun v t q9 => by cases q9.1) (fun E9 t q9 => ?_)
        obtain ⟨q8, q9⟩ := q9
        cases q8
        rw [q9]
        have e : zq_way S 1 ((f : Nat) : Int) zv = (1, 0) := by
          simp only [zq_way, Int.toNat_natCast]
          first | (rw [if_pos (by omega)]) | (rw [if_neg (by omega), if_pos (by omega)]) | (rw [if_neg (by omega), if_neg (by omega), if_pos (by omega)]) | (rw [if_neg (by omega), if_neg (by omega), if_neg (by omega), if_pos (by omega)])
        rw [e]
        exact ⟨rfl, zFq_r _⟩
    · skip
      refine az_cl (m2 := am_m_X9_needLand) (as := [az_i (((f : Nat) : Int))]) (rest := []) 4 rfl rfl ⟨rfl, rfl⟩ (by omega) (zs_X9_needLand_n (s := s) (z := (((f : Nat) : Int))) (by omega) (by first | assumption | exact ⟨by omega, by omega⟩) (by first | assumption | omega)) (fun v t q9 => by cases q9.1) (fun E9 t q9 => ?_)
      obtain ⟨q8, q9⟩ := q9
      cases q8
      rw [q9]
      have e : zq_way S 1 ((f : Nat) : Int) zv = (1, 0) := by
        simp only [zq_way, Int.toNat_natCast]
        first | (rw [if_pos (by omega)]) | (rw [if_neg (by omega), if_pos (by omega)]) | (rw [if_neg (by omega), if_neg (by omega), if_pos (by omega)]) | (rw [if_neg (by omega), if_neg (by omega), if_neg (by omega), if_pos (by omega)])
      rw [e]
      exact ⟨rfl, zFq_r _⟩
  · skip
    refine az_cl (m2 := am_m_X9_needLand) (as := [az_i (zf0)]) (rest := []) 4 rfl rfl ⟨rfl, rfl⟩ (by omega) (zs_X9_needLand_n (s := s) (z := zf0) (by omega) (by first | assumption | exact ⟨by omega, by omega⟩) (by first | assumption | omega)) (fun v t q9 => by cases q9.1) (fun E9 t q9 => ?_)
    obtain ⟨q8, q9⟩ := q9
    cases q8
    rw [q9]
    have e : zq_way S 1 zf0 zv = (1, 0) := by
      simp only [zq_way, Int.toNat_natCast]
      first | (rw [if_pos (by omega)]) | (rw [if_neg (by omega), if_pos (by omega)]) | (rw [if_neg (by omega), if_neg (by omega), if_pos (by omega)]) | (rw [if_neg (by omega), if_neg (by omega), if_neg (by omega), if_pos (by omega)])
    rw [e]
    exact ⟨rfl, zFq_r _⟩
set_option maxRecDepth 100000 in
set_option maxHeartbeats 800000 in
theorem zs_X9_hangs {d : Nat} {s : az_S} (hd : 7 ≤ d) {S : zR} {h : Nat} (hR : zRel (s 3) S) (hI : zInv S h) (hh : h ≤ 10000) {zf0 : Int} {zv : Int} (h_zf0 : az_in zf0) (h_zv : az_in zv) : az_R d am_m_X9_hangs 0 (az_ini (am_mL am_m_X9_hangs) [az_r 0, az_i (zf0), az_i (zv)]) [] (s) (fun o t => o = zoe [3, 5] (zq_hangs S zf0 zv) ∧ zFq s t) := by
  have hz := zI_h hI hh
  refine az_to 0 (pc2 := 0) (lv2 := [some (az_r 0), some (az_i (zf0)), some (az_i (zv))]) (st2 := []) (s2 := s) rfl ?_
  refine az_to 1 (pc2 := 1) (lv2 := [some (az_r 0), some (az_i (zf0)), some (az_i (zv))]) (st2 := [az_i (zf0)]) (s2 := s) rfl ?_
  by_cases h1 : 0 ≤ zf0 ∧ zf0 ≤ 5
  · skip
    obtain ⟨f, rfl⟩ : ∃ n0 : Nat, zf0 = n0 := ⟨zf0.toNat, by omega⟩
    refine az_to 0 (pc2 := 1) (lv2 := [some (az_r 0), some (az_i (((f : Nat) : Int))), some (az_i (zv))]) (st2 := [az_i (((f : Nat) : Int))]) (s2 := s) (rfl) ?_
    by_cases h2 : 0 ≤ (((f : Nat) : Int)) ∧ (((f : Nat) : Int)) ≤ 5
    · skip
      refine az_clv (v := none) (t := s) (m2 := am_m_X9_needLand) (as := [az_i (((f : Nat) : Int))]) (rest := []) 4 rfl rfl ⟨rfl, rfl⟩ (by omega) (zs_X9_needLand_y (s := s) (z := (((f : Nat) : Int))) (by omega) (by first | assumption | exact ⟨by omega, by omega⟩) (by first | assumption | omega)) ?_
      refine az_to 0 (pc2 := 4) (lv2 := [some (az_r 0), some (az_i (((f : Nat) : Int))), some (az_i (zv))]) (st2 := []) (s2 := s) rfl ?_
      refine az_to 1 (pc2 := 5) (lv2 := [some (az_r 0), some (az_i (((f : Nat) : Int))), some (az_i (zv))]) (st2 := [az_i (zv)]) (s2 := s) rfl ?_
      by_cases h3 : 0 ≤ zv ∧ zv ≤ 5
      · skip
        obtain ⟨v, rfl⟩ : ∃ n0 : Nat, zv = n0 := ⟨zv.toNat, by omega⟩
        refine az_to 0 (pc2 := 5) (lv2 := [some (az_r 0), some (az_i (((f : Nat) : Int))), some (az_i (((v : Nat) : Int)))]) (st2 := [az_i (((v : Nat) : Int))]) (s2 := s) (rfl) ?_
        by_cases h4 : 0 ≤ (((v : Nat) : Int)) ∧ (((v : Nat) : Int)) ≤ 5
        · skip
          refine az_clv (v := none) (t := s) (m2 := am_m_X9_needLand) (as := [az_i (((v : Nat) : Int))]) (rest := []) 8 rfl rfl ⟨rfl, rfl⟩ (by omega) (zs_X9_needLand_y (s := s) (z := (((v : Nat) : Int))) (by omega) (by first | assumption | exact ⟨by omega, by omega⟩) (by first | assumption | omega)) ?_
          refine az_to 0 (pc2 := 8) (lv2 := [some (az_r 0), some (az_i (((f : Nat) : Int))), some (az_i (((v : Nat) : Int)))]) (st2 := []) (s2 := s) rfl ?_
          refine az_to 3 (pc2 := 13) (lv2 := [some (az_r 0), some (az_i (((f : Nat) : Int))), some (az_i (((v : Nat) : Int)))]) (st2 := [az_i (1), az_r 6]) (s2 := s) rfl ?_
          refine az_cl (m2 := am_m_X7_measure) (as := [az_r 6, az_i (1)]) (rest := []) 16 rfl rfl ⟨rfl, rfl⟩ (by omega) (zs_X7_measure_1 (s := s)  (by omega) hR hI hh) (fun v5 t5 q5 => ?_) (fun E t5 q5 => by cases q5.1)
          obtain ⟨o5, ff5, gg5⟩ := q5
          cases o5
          refine az_to 0 (pc2 := 16) (lv2 := [some (az_r 0), some (az_i (((f : Nat) : Int))), some (az_i (((v : Nat) : Int)))]) (st2 := []) (s2 := t5) rfl ?_
          have hRm : zRel (t5 3) S := by rw [gg5 3 (by decide)]; exact hR
          have hLm : ∀ b, b < zn S 0 → t5 8 b = zln S 1 b := ff5
          refine az_to 4 (pc2 := 22) (lv2 := [some (az_r 0), some (az_i (((f : Nat) : Int))), some (az_i (((v : Nat) : Int)))]) (st2 := [az_i (((v : Nat) : Int)), az_i (((f : Nat) : Int)), az_r 6]) (s2 := t5) rfl ?_
          refine az_cl (m2 := am_m_X7_landByLand) (as := [az_r 6, az_i (((f : Nat) : Int)), az_i (((v : Nat) : Int))]) (rest := []) 25 rfl rfl ⟨rfl, rfl⟩ (by omega) (zs_X7_landByLand (s := t5) (f := f) (v := v) (by omega) hRm hI hh hLm (by omega) (by omega)) (fun v6 t6 q6 => ?_) (fun E t6 q6 => by cases q6.1)
          obtain ⟨o6, ff6, gg6⟩ := q6
          cases o6
          refine az_to 0 (pc2 := 25) (lv2 := [some (az_r 0), some (az_i (((f : Nat) : Int))), some (az_i (((v : Nat) : Int)))]) (st2 := [az_i (zwy S 1 f v)]) (s2 := t6) rfl ?_
          have hwr := zwy_r (S := S) (m := 1) (f := f) (v := v) ⟨_, ff6⟩ (by omega)
          have hRw : zRel (t6 3) S := by rw [gg6 3 (by decide) (by decide)]; exact hRm
          have hLw : ∀ b, b < zn S 0 → t6 8 b = zln S 1 b := fun b hb => by rw [gg6 8 (by decide) (by decide)]; exact hLm b hb
          by_cases h7 : ¬ (zwy S 1 f v) = -1
          · skip
            refine az_clv (v := some (az_i ((zwy S 1 f v)))) (t := t6) (m2 := am_m_X9_needWay) (as := [az_i (zwy S 1 f v)]) (rest := []) 28 rfl rfl ⟨rfl, rfl⟩ (by omega) (zs_X9_needWay_y (s := t6) (z := (zwy S 1 f v)) (by omega) (by first | assumption | exact ⟨by omega, by omega⟩) (by first | assumption | omega)) ?_
            refine az_to 0 (pc2 := 28) (lv2 := [some (az_r 0), some (az_i (((f : Nat) : Int))), some (az_i (((v : Nat) : Int)))]) (st2 := [az_i ((zwy S 1 f v))]) (s2 := t6) rfl ?_
            refine az_to 4 (pc2 := 34) (lv2 := [some (az_r 0), some (az_i (((f : Nat) : Int))), some (az_i (((v : Nat) : Int)))]) (st2 := [az_i (((v : Nat) : Int)), az_r 6]) (s2 := t6) rfl ?_
            refine az_clv (v := some (az_i (zhg S f v))) (t := t6) (m2 := am_m_X7_hanger) (as := [az_r 6, az_i (((v : Nat) : Int))]) (rest := []) 37 rfl rfl ⟨rfl, rfl⟩ (by omega) (zs_X7_hanger (s := t6) (v := v) (by omega) hRw hI hh hLw (by omega) ff6 (by omega)) ?_
            refine az_to 0 (pc2 := 37) (lv2 := [some (az_r 0), some (az_i (((f : Nat) : Int))), some (az_i (((v : Nat) : Int)))]) (st2 := [az_i (zhg S f v)]) (s2 := t6) rfl ?_
            refine az_retI rfl rfl ?_
            have e : zq_hangs S ((f : Nat) : Int) ((v : Nat) : Int) = (0, zhg S f v) := by
              simp only [zq_hangs, Int.toNat_natCast]
              rw [if_neg (by omega), if_neg (by omega)]
            rw [e]
            exact ⟨rfl, fun i i8 i10 i12 i14 i16 => by rw [gg6 i (by assumption) (by assumption), gg5 i i8]⟩
          · skip
            refine az_cl (m2 := am_m_X9_needWay) (as := [az_i (zwy S 1 f v)]) (rest := []) 28 rfl rfl ⟨rfl, rfl⟩ (by omega) (zs_X9_needWay_n (s := t6) (z := (zwy S 1 f v)) (by omega) (by first | assumption | exact ⟨by omega, by omega⟩) (by first | assumption | omega)) (fun v t q9 => by cases q9.1) (fun E9 t q9 => ?_)
            obtain ⟨q8, q9⟩ := q9
            cases q8
            rw [q9]
            have e : zq_hangs S ((f : Nat) : Int) ((v : Nat) : Int) = (2, 0) := by
              simp only [zq_hangs, Int.toNat_natCast]
              first | (rw [if_pos (by omega)]) | (rw [if_neg (by omega), if_pos (by omega)]) | (rw [if_neg (by omega), if_neg (by omega), if_pos (by omega)]) | (rw [if_neg (by omega), if_neg (by omega), if_neg (by omega), if_pos (by omega)])
            rw [e]
            exact ⟨rfl, fun i i8 i10 i12 i14 i16 => by rw [gg6 i (by assumption) (by assumption), gg5 i i8]⟩
        · skip
          refine az_cl (m2 := am_m_X9_needLand) (as := [az_i (((v : Nat) : Int))]) (rest := []) 8 rfl rfl ⟨rfl, rfl⟩ (by omega) (zs_X9_needLand_n (s := s) (z := (((v : Nat) : Int))) (by omega) (by first | assumption | exact ⟨by omega, by omega⟩) (by first | assumption | omega)) (fun v t q9 => by cases q9.1) (fun E9 t q9 => ?_)
          obtain ⟨q8, q9⟩ := q9
          cases q8
          rw [q9]
          have e : zq_hangs S ((f : Nat) : Int) ((v : Nat) : Int) = (1, 0) := by
            simp only [zq_hangs, Int.toNat_natCast]
            first | (rw [if_pos (by omega)]) | (rw [if_neg (by omega), if_pos (by omega)]) | (rw [if_neg (by omega), if_neg (by omega), if_pos (by omega)]) | (rw [if_neg (by omega), if_neg (by omega), if_neg (by omega), if_pos (by omega)])
          rw [e]
          exact ⟨rfl, zFq_r _⟩
      · skip
        refine az_cl (m2 := am_m_X9_needLand) (as := [az_i (zv)]) (rest := []) 8 rfl rfl ⟨rfl, rfl⟩ (by omega) (zs_X9_needLand_n (s := s) (z := zv) (by omega) (by first | assumption | exact ⟨by omega, by omega⟩) (by first | assumption | omega)) (fun v t q9 => by cases q9.1) (fun E9 t q9 => ?_)
        obtain ⟨q8, q9⟩ := q9
        cases q8
        rw [q9]
        have e : zq_hangs S ((f : Nat) : Int) zv = (1, 0) := by
          simp only [zq_hangs, Int.toNat_natCast]
          first | (rw [if_pos (by omega)]) | (rw [if_neg (by omega), if_pos (by omega)]) | (rw [if_neg (by omega), if_neg (by omega), if_pos (by omega)]) | (rw [if_neg (by omega), if_neg (by omega), if_neg (by omega), if_pos (by omega)])
        rw [e]
        exact ⟨rfl, zFq_r _⟩
    · skip
      refine az_cl (m2 := am_m_X9_needLand) (as := [az_i (((f : Nat) : Int))]) (rest := []) 4 rfl rfl ⟨rfl, rfl⟩ (by omega) (zs_X9_needLand_n (s := s) (z := (((f : Nat) : Int))) (by omega) (by first | assumption | exact ⟨by omega, by omega⟩) (by first | assumption | omega)) (fun v t q9 => by cases q9.1) (fun E9 t q9 => ?_)
      obtain ⟨q8, q9⟩ := q9
      cases q8
      rw [q9]
      have e : zq_hangs S ((f : Nat) : Int) zv = (1, 0) := by
        simp only [zq_hangs, Int.toNat_natCast]
        first | (rw [if_pos (by omega)]) | (rw [if_neg (by omega), if_pos (by omega)]) | (rw [if_neg (by omega), if_neg (by omega), if_pos (by omega)]) | (rw [if_neg (by omega), if_neg (by omega), if_neg (by omega), if_pos (by omega)])
      rw [e]
      exact ⟨rfl, zFq_r _⟩
  · skip
    refine az_cl (m2 := am_m_X9_needLand) (as := [az_i (zf0)]) (rest := []) 4 rfl rfl ⟨rfl, rfl⟩ (by omega) (zs_X9_needLand_n (s := s) (z := zf0) (by omega) (by first | assumption | exact ⟨by omega, by omega⟩) (by first | assumption | omega)) (fun v t q9 => by cases q9.1) (fun E9 t q9 => ?_)
    obtain ⟨q8, q9⟩ := q9
    cases q8
    rw [q9]
    have e : zq_hangs S zf0 zv = (1, 0) := by
      simp only [zq_hangs, Int.toNat_natCast]
      first | (rw [if_pos (by omega)]) | (rw [if_neg (by omega), if_pos (by omega)]) | (rw [if_neg (by omega), if_neg (by omega), if_pos (by omega)]) | (rw [if_neg (by omega), if_neg (by omega), if_neg (by omega), if_pos (by omega)])
    rw [e]
    exact ⟨rfl, zFq_r _⟩
set_option maxRecDepth 100000 in
set_option maxHeartbeats 800000 in
theorem zs_X9_counted {d : Nat} {s : az_S} (hd : 4 ≤ d) {S : zR} {h : Nat} (hR : zRel (s 3) S) (hI : zInv S h) (hh : h ≤ 10000)   : az_R d am_m_X9_counted 0 (az_ini (am_mL am_m_X9_counted) [az_r 0]) [] (s) (fun o t => o = .inl (some (az_i (zcp S))) ∧ zFq s t) := by
  have hz := zI_h hI hh
  refine az_to 0 (pc2 := 0) (lv2 := [some (az_r 0)]) (st2 := []) (s2 := s) rfl ?_
  refine az_to 2 (pc2 := 4) (lv2 := [some (az_r 0)]) (st2 := [az_r 1]) (s2 := s) rfl ?_
  refine az_clv (v := some (az_i (zcp S))) (t := s) (m2 := am_m_X8_countTrollsPosted) (as := [az_r 1]) (rest := []) 7 rfl rfl ⟨rfl, rfl⟩ (by omega) (zs_X8_countTrollsPosted (s := s)  (by omega) hR hI hh) ?_
  refine az_to 0 (pc2 := 7) (lv2 := [some (az_r 0)]) (st2 := [az_i (zcp S)]) (s2 := s) rfl ?_
  refine az_retI rfl rfl ?_
  exact ⟨rfl, zFq_r _⟩
set_option maxRecDepth 100000 in
set_option maxHeartbeats 800000 in
theorem zs_X9_countedAgain {d : Nat} {s : az_S} (hd : 4 ≤ d) {S : zR} {h : Nat} (hR : zRel (s 3) S) (hI : zInv S h) (hh : h ≤ 10000)   : az_R d am_m_X9_countedAgain 0 (az_ini (am_mL am_m_X9_countedAgain) [az_r 0]) [] (s) (fun o t => o = .inl (some (az_i (zcc S))) ∧ zFq s t) := by
  have hz := zI_h hI hh
  refine az_to 0 (pc2 := 0) (lv2 := [some (az_r 0)]) (st2 := []) (s2 := s) rfl ?_
  refine az_to 2 (pc2 := 4) (lv2 := [some (az_r 0)]) (st2 := [az_r 1]) (s2 := s) rfl ?_
  refine az_clv (v := some (az_i (zcc S))) (t := s) (m2 := am_m_X8_countBridgesCounted) (as := [az_r 1]) (rest := []) 7 rfl rfl ⟨rfl, rfl⟩ (by omega) (zs_X8_countBridgesCounted (s := s)  (by omega) hR hI hh) ?_
  refine az_to 0 (pc2 := 7) (lv2 := [some (az_r 0)]) (st2 := [az_i (zcc S)]) (s2 := s) rfl ?_
  refine az_retI rfl rfl ?_
  exact ⟨rfl, zFq_r _⟩
set_option maxRecDepth 100000 in
set_option maxHeartbeats 800000 in
theorem zs_X9_isGeneral {d : Nat} {s : az_S} (hd : 4 ≤ d) {S : zR} {h : Nat} (hR : zRel (s 3) S) (hI : zInv S h) (hh : h ≤ 10000)   : az_R d am_m_X9_isGeneral 0 (az_ini (am_mL am_m_X9_isGeneral) [az_r 0]) [] (s) (fun o t => o = .inl (some (az_i (az_b (zgen S)))) ∧ zFq s t) := by
  have hz := zI_h hI hh
  refine az_to 0 (pc2 := 0) (lv2 := [some (az_r 0)]) (st2 := []) (s2 := s) rfl ?_
  refine az_to 2 (pc2 := 4) (lv2 := [some (az_r 0)]) (st2 := [az_r 1]) (s2 := s) rfl ?_
  refine az_clv (v := some (az_i (az_b (zgen S)))) (t := s) (m2 := am_m_X8_isGeneralStrike) (as := [az_r 1]) (rest := []) 7 rfl rfl ⟨rfl, rfl⟩ (by omega) (zs_X8_isGeneralStrike (s := s)  (by omega) hR hI hh) ?_
  refine az_to 0 (pc2 := 7) (lv2 := [some (az_r 0)]) (st2 := [az_i (az_b (zgen S))]) (s2 := s) rfl ?_
  refine az_retP rfl rfl ?_
  exact ⟨rfl, zFq_r _⟩
set_option maxRecDepth 100000 in
set_option maxHeartbeats 800000 in
theorem zs_X9_sum_1 {d : Nat} {s : az_S} (hd : 4 ≤ d) {S : zR} {h : Nat} (hR : zRel (s 3) S) (hI : zInv S h) (hh : h ≤ 10000)   : az_R d am_m_X9_sum 0 (az_ini (am_mL am_m_X9_sum) [az_r 0, az_i (1)]) [] (s) (fun o t => o = .inl (some (az_i (ztl S True))) ∧ zFq s t) := by
  have hz := zI_h hI hh
  refine az_to 0 (pc2 := 0) (lv2 := [some (az_r 0), some (az_i (1))]) (st2 := []) (s2 := s) rfl ?_
  refine az_to 3 (pc2 := 5) (lv2 := [some (az_r 0), some (az_i (1))]) (st2 := [az_i (1), az_r 1]) (s2 := s) rfl ?_
  refine az_clv (v := some (az_i (ztl S (True)))) (t := s) (m2 := am_m_X8_sumOfTolls) (as := [az_r 1, az_i (1)]) (rest := []) 8 rfl rfl ⟨rfl, rfl⟩ (by omega) (zs_X8_sumOfTolls (s := s) (p := True) (by omega) hR hI hh) ?_
  refine az_to 0 (pc2 := 8) (lv2 := [some (az_r 0), some (az_i (1))]) (st2 := [az_i (ztl S (True))]) (s2 := s) rfl ?_
  refine az_retI rfl rfl ?_
  exact ⟨rfl, zFq_r _⟩
set_option maxRecDepth 100000 in
set_option maxHeartbeats 800000 in
theorem zs_X9_sum_0 {d : Nat} {s : az_S} (hd : 4 ≤ d) {S : zR} {h : Nat} (hR : zRel (s 3) S) (hI : zInv S h) (hh : h ≤ 10000)   : az_R d am_m_X9_sum 0 (az_ini (am_mL am_m_X9_sum) [az_r 0, az_i (0)]) [] (s) (fun o t => o = .inl (some (az_i (ztl S False))) ∧ zFq s t) := by
  have hz := zI_h hI hh
  refine az_to 0 (pc2 := 0) (lv2 := [some (az_r 0), some (az_i (0))]) (st2 := []) (s2 := s) rfl ?_
  refine az_to 3 (pc2 := 5) (lv2 := [some (az_r 0), some (az_i (0))]) (st2 := [az_i (0), az_r 1]) (s2 := s) rfl ?_
  refine az_clv (v := some (az_i (ztl S (False)))) (t := s) (m2 := am_m_X8_sumOfTolls) (as := [az_r 1, az_i (0)]) (rest := []) 8 rfl rfl ⟨rfl, rfl⟩ (by omega) (zs_X8_sumOfTolls (s := s) (p := False) (by omega) hR hI hh) ?_
  refine az_to 0 (pc2 := 8) (lv2 := [some (az_r 0), some (az_i (0))]) (st2 := [az_i (ztl S (False))]) (s2 := s) rfl ?_
  refine az_retI rfl rfl ?_
  exact ⟨rfl, zFq_r _⟩
set_option maxRecDepth 100000 in
set_option maxHeartbeats 800000 in
theorem zs_X9_richest_L2 {d : Nat} {s : az_S} (hd : 6 ≤ d) {S : zR} {h : Nat} (hR : zRel (s 3) S) (hI : zInv S h) (hh : h ≤ 10000) {zp : Int} (h_zp : az_in zp) : ∀ (mq : Nat) (k : Nat), mq = zn S 1 - k → (k ≤ zn S 1) → (∀ i, i < k → ¬ zpt S i = zp) → az_R d am_m_X9_richest 2 [some (az_r 0), some (az_i (zp)), some (az_i (((k : Nat) : Int)))] [] (s) (fun o t => o = zoe [5] (zq_richest S zp) ∧ zFq s t) := by
  intro mq
  induction mq using Nat.strongRecOn with
  | _ mq ih =>
    intro k hm g0 g1
    have hz := zI_h hI hh
    refine az_to 4 (pc2 := 8) (lv2 := [some (az_r 0), some (az_i (zp)), some (az_i (((k : Nat) : Int)))]) (st2 := [az_i (3), az_r 1, az_i (((k : Nat) : Int))]) (s2 := s) rfl ?_
    refine az_clv (v := some (az_i (((zn S 1 : Nat) : Int)))) (t := s) (m2 := am_m_X8_of) (as := [az_r 1, az_i (3)]) (rest := [az_i (((k : Nat) : Int))]) 11 rfl rfl ⟨rfl, rfl⟩ (by omega) (zs_X8_of_3 (s := s)  (by omega) hR hI hh) ?_
    refine az_to 0 (pc2 := 11) (lv2 := [some (az_r 0), some (az_i (zp)), some (az_i (((k : Nat) : Int)))]) (st2 := [az_i (((zn S 1 : Nat) : Int)), az_i (((k : Nat) : Int))]) (s2 := s) rfl ?_
    refine az_if2 34 14 rfl (by decide) (by first | assumption | exact ⟨by omega, by omega⟩) (by first | assumption | exact ⟨by omega, by omega⟩) (fun h1 => ?_) (fun h1 => ?_)
    · have h1 : ((zn S 1 : Nat) : Int) ≤ ((k : Nat) : Int) := h1
      refine az_thr (E := 5) rfl rfl rfl ?_
      have e : zf (zn S 1) (fun t => decide (zpt S t = zp)) = -1 := zf_none _ _ (fun i hi => by rw [decide_eq_false_iff_not]; exact g1 i (by omega))
      have e2 : zq_richest S zp = (1, 0) := by unfold zq_richest; rw [e]; rfl
      rw [e2]
      exact ⟨rfl, zFq_r _⟩
    · have h1 : ¬ (((zn S 1 : Nat) : Int) ≤ ((k : Nat) : Int)) := h1
      have hpr := zpt_r S k
      refine az_to 3 (pc2 := 19) (lv2 := [some (az_r 0), some (az_i (zp)), some (az_i (((k : Nat) : Int)))]) (st2 := [az_i (((k : Nat) : Int)), az_r 1]) (s2 := s) rfl ?_
      refine az_clv (v := some (az_i (zpt S k))) (t := s) (m2 := am_m_X8_placeOfTroll) (as := [az_r 1, az_i (((k : Nat) : Int))]) (rest := []) 22 rfl rfl ⟨rfl, rfl⟩ (by omega) (zs_X8_placeOfTroll (s := s) (t := k) (by omega) hR hI hh (by omega)) ?_
      refine az_to 0 (pc2 := 22) (lv2 := [some (az_r 0), some (az_i (zp)), some (az_i (((k : Nat) : Int)))]) (st2 := [az_i (zpt S k)]) (s2 := s) rfl ?_
      refine az_to 1 (pc2 := 23) (lv2 := [some (az_r 0), some (az_i (zp)), some (az_i (((k : Nat) : Int)))]) (st2 := [az_i (zp), az_i (zpt S k)]) (s2 := s) rfl ?_
      refine az_if2 28 26 rfl (by decide) (by first | assumption | exact ⟨by omega, by omega⟩) (by first | assumption | exact ⟨by omega, by omega⟩) (fun h2 => ?_) (fun h2 => ?_)
      · have h2 : ¬ zpt S k = zp := h2
        refine az_to 2 (pc2 := 2) (lv2 := [some (az_r 0), some (az_i (zp)), some (az_i ((((k : Nat) : Int) + 1)))]) (st2 := []) (s2 := s) rfl ?_
        exact ih _ (by omega) (k + 1) rfl (by omega) (fun i hi => by
          by_cases q : i = k
          · rw [q]; assumption
          · exact g1 i (by omega))
      · have h2 : zpt S k = zp := Decidable.not_not.mp h2
        refine az_to 1 (pc2 := 27) (lv2 := [some (az_r 0), some (az_i (zp)), some (az_i (((k : Nat) : Int)))]) (st2 := [az_i (((k : Nat) : Int))]) (s2 := s) rfl ?_
        refine az_retI rfl rfl ?_
        have e : zf (zn S 1) (fun t => decide (zpt S t = zp)) = ((k : Nat) : Int) := zf_first _ _ k (by omega) (by rw [decide_eq_true_eq]; assumption) (fun i hi => by rw [decide_eq_false_iff_not]; exact g1 i hi)
        have e2 : zq_richest S zp = (0, ((k : Nat) : Int)) := by unfold zq_richest; rw [e, if_pos (by omega)]
        rw [e2]
        exact ⟨rfl, zFq_r _⟩
set_option maxRecDepth 100000 in
set_option maxHeartbeats 800000 in
theorem zs_X9_richest {d : Nat} {s : az_S} (hd : 6 ≤ d) {S : zR} {h : Nat} (hR : zRel (s 3) S) (hI : zInv S h) (hh : h ≤ 10000) {zp : Int} (h_zp : az_in zp) : az_R d am_m_X9_richest 0 (az_ini (am_mL am_m_X9_richest) [az_r 0, az_i (zp)]) [] (s) (fun o t => o = zoe [5] (zq_richest S zp) ∧ zFq s t) := by
  have hz := zI_h hI hh
  refine az_to 0 (pc2 := 0) (lv2 := [some (az_r 0), some (az_i (zp)), none]) (st2 := []) (s2 := s) rfl ?_
  refine az_to 2 (pc2 := 2) (lv2 := [some (az_r 0), some (az_i (zp)), some (az_i (0))]) (st2 := []) (s2 := s) rfl ?_
  exact zs_X9_richest_L2 (by omega) hR hI hh h_zp _ 0 rfl (by omega) (fun i hi => absurd hi (by omega))
set_option maxRecDepth 100000 in
set_option maxHeartbeats 800000 in
theorem zs_X9_tired_L2 {d : Nat} {s : az_S} (hd : 6 ≤ d) {S : zR} {h : Nat} (hR : zRel (s 3) S) (hI : zInv S h) (hh : h ≤ 10000) {zp : Int} (h_zp : az_in zp) : ∀ (mq : Nat) (k : Nat), mq = zn S 2 - k → (k ≤ zn S 2) → (∀ i, i < k → ¬ zpg S i = zp) → az_R d am_m_X9_tired 2 [some (az_r 0), some (az_i (zp)), some (az_i (((k : Nat) : Int)))] [] (s) (fun o t => o = zoe [5] (zq_tired S zp) ∧ zFq s t) := by
  intro mq
  induction mq using Nat.strongRecOn with
  | _ mq ih =>
    intro k hm g0 g1
    have hz := zI_h hI hh
    refine az_to 4 (pc2 := 8) (lv2 := [some (az_r 0), some (az_i (zp)), some (az_i (((k : Nat) : Int)))]) (st2 := [az_i (4), az_r 1, az_i (((k : Nat) : Int))]) (s2 := s) rfl ?_
    refine az_clv (v := some (az_i (((zn S 2 : Nat) : Int)))) (t := s) (m2 := am_m_X8_of) (as := [az_r 1, az_i (4)]) (rest := [az_i (((k : Nat) : Int))]) 11 rfl rfl ⟨rfl, rfl⟩ (by omega) (zs_X8_of_4 (s := s)  (by omega) hR hI hh) ?_
    refine az_to 0 (pc2 := 11) (lv2 := [some (az_r 0), some (az_i (zp)), some (az_i (((k : Nat) : Int)))]) (st2 := [az_i (((zn S 2 : Nat) : Int)), az_i (((k : Nat) : Int))]) (s2 := s) rfl ?_
    refine az_if2 34 14 rfl (by decide) (by first | assumption | exact ⟨by omega, by omega⟩) (by first | assumption | exact ⟨by omega, by omega⟩) (fun h1 => ?_) (fun h1 => ?_)
    · have h1 : ((zn S 2 : Nat) : Int) ≤ ((k : Nat) : Int) := h1
      refine az_thr (E := 5) rfl rfl rfl ?_
      have e : zf (zn S 2) (fun t => decide (zpg S t = zp)) = -1 := zf_none _ _ (fun i hi => by rw [decide_eq_false_iff_not]; exact g1 i (by omega))
      have e2 : zq_tired S zp = (1, 0) := by unfold zq_tired; rw [e]; rfl
      rw [e2]
      exact ⟨rfl, zFq_r _⟩
    · have h1 : ¬ (((zn S 2 : Nat) : Int) ≤ ((k : Nat) : Int)) := h1
      have hpr := zpg_r S k
      refine az_to 3 (pc2 := 19) (lv2 := [some (az_r 0), some (az_i (zp)), some (az_i (((k : Nat) : Int)))]) (st2 := [az_i (((k : Nat) : Int)), az_r 1]) (s2 := s) rfl ?_
      refine az_clv (v := some (az_i (zpg S k))) (t := s) (m2 := am_m_X8_placeOfGoat) (as := [az_r 1, az_i (((k : Nat) : Int))]) (rest := []) 22 rfl rfl ⟨rfl, rfl⟩ (by omega) (zs_X8_placeOfGoat (s := s) (t := k) (by omega) hR hI hh (by omega)) ?_
      refine az_to 0 (pc2 := 22) (lv2 := [some (az_r 0), some (az_i (zp)), some (az_i (((k : Nat) : Int)))]) (st2 := [az_i (zpg S k)]) (s2 := s) rfl ?_
      refine az_to 1 (pc2 := 23) (lv2 := [some (az_r 0), some (az_i (zp)), some (az_i (((k : Nat) : Int)))]) (st2 := [az_i (zp), az_i (zpg S k)]) (s2 := s) rfl ?_
      refine az_if2 28 26 rfl (by decide) (by first | assumption | exact ⟨by omega, by omega⟩) (by first | assumption | exact ⟨by omega, by omega⟩) (fun h2 => ?_) (fun h2 => ?_)
      · have h2 : ¬ zpg S k = zp := h2
        refine az_to 2 (pc2 := 2) (lv2 := [some (az_r 0), some (az_i (zp)), some (az_i ((((k : Nat) : Int) + 1)))]) (st2 := []) (s2 := s) rfl ?_
        exact ih _ (by omega) (k + 1) rfl (by omega) (fun i hi => by
          by_cases q : i = k
          · rw [q]; assumption
          · exact g1 i (by omega))
      · have h2 : zpg S k = zp := Decidable.not_not.mp h2
        refine az_to 1 (pc2 := 27) (lv2 := [some (az_r 0), some (az_i (zp)), some (az_i (((k : Nat) : Int)))]) (st2 := [az_i (((k : Nat) : Int))]) (s2 := s) rfl ?_
        refine az_retI rfl rfl ?_
        have e : zf (zn S 2) (fun t => decide (zpg S t = zp)) = ((k : Nat) : Int) := zf_first _ _ k (by omega) (by rw [decide_eq_true_eq]; assumption) (fun i hi => by rw [decide_eq_false_iff_not]; exact g1 i hi)
        have e2 : zq_tired S zp = (0, ((k : Nat) : Int)) := by unfold zq_tired; rw [e, if_pos (by omega)]
        rw [e2]
        exact ⟨rfl, zFq_r _⟩
set_option maxRecDepth 100000 in
set_option maxHeartbeats 800000 in
theorem zs_X9_tired {d : Nat} {s : az_S} (hd : 6 ≤ d) {S : zR} {h : Nat} (hR : zRel (s 3) S) (hI : zInv S h) (hh : h ≤ 10000) {zp : Int} (h_zp : az_in zp) : az_R d am_m_X9_tired 0 (az_ini (am_mL am_m_X9_tired) [az_r 0, az_i (zp)]) [] (s) (fun o t => o = zoe [5] (zq_tired S zp) ∧ zFq s t) := by
  have hz := zI_h hI hh
  refine az_to 0 (pc2 := 0) (lv2 := [some (az_r 0), some (az_i (zp)), none]) (st2 := []) (s2 := s) rfl ?_
  refine az_to 2 (pc2 := 2) (lv2 := [some (az_r 0), some (az_i (zp)), some (az_i (0))]) (st2 := []) (s2 := s) rfl ?_
  exact zs_X9_tired_L2 (by omega) hR hI hh h_zp _ 0 rfl (by omega) (fun i hi => absurd hi (by omega))
set_option maxRecDepth 100000 in
set_option maxHeartbeats 800000 in
theorem zs_X9_next {d : Nat} {s : az_S} (hd : 4 ≤ d) {S : zR} {h : Nat} (hR : zRel (s 3) S) (hI : zInv S h) (hh : h ≤ 10000)   : az_R d am_m_X9_next 0 (az_ini (am_mL am_m_X9_next) [az_r 0]) [] (s) (fun o t => o = zoe [5] (zq_next S ) ∧ zFq s t) := by
  have hz := zI_h hI hh
  have hzne := zne2_r hI hh (Nat.le_refl (zn S 0))
  have hze : zne S = zne2 S (zn S 0) := rfl
  rw [← hze] at hzne
  refine az_to 0 (pc2 := 0) (lv2 := [some (az_r 0), none]) (st2 := []) (s2 := s) rfl ?_
  refine az_to 2 (pc2 := 4) (lv2 := [some (az_r 0), none]) (st2 := [az_r 1]) (s2 := s) rfl ?_
  refine az_clv (v := some (az_i (zne S))) (t := s) (m2 := am_m_X8_nextEnd) (as := [az_r 1]) (rest := []) 7 rfl rfl ⟨rfl, rfl⟩ (by omega) (zs_X8_nextEnd (s := s)  (by omega) hR hI hh) ?_
  refine az_to 0 (pc2 := 7) (lv2 := [some (az_r 0), none]) (st2 := [az_i (zne S)]) (s2 := s) rfl ?_
  refine az_to 3 (pc2 := 10) (lv2 := [some (az_r 0), some (az_i (zne S))]) (st2 := [az_i (-1), az_i (zne S)]) (s2 := s) rfl ?_
  refine az_if2 23 13 rfl (by decide) (by first | assumption | exact ⟨by omega, by omega⟩) ⟨by decide, by decide⟩ (fun h1 => ?_) (fun h1 => ?_)
  · have h1 : ¬ zne S = -1 := h1
    refine az_to 1 (pc2 := 24) (lv2 := [some (az_r 0), some (az_i (zne S))]) (st2 := [az_i (zne S)]) (s2 := s) rfl ?_
    refine az_retI rfl rfl ?_
    have e : zq_next S = (0, zne S) := by unfold zq_next; rw [if_neg (by omega)]
    rw [e]
    exact ⟨rfl, zFq_r _⟩
  · have h1 : zne S = -1 := Decidable.not_not.mp h1
    refine az_thr (E := 5) rfl rfl rfl ?_
    have e : zq_next S = (1, 0) := by unfold zq_next; rw [if_pos (by omega)]
    rw [e]
    exact ⟨rfl, zFq_r _⟩
set_option maxRecDepth 100000 in
set_option maxHeartbeats 800000 in
theorem zs_X9_isWell {d : Nat} {s : az_S} (hd : 7 ≤ d) {S : zR} {h : Nat} (hR : zRel (s 3) S) (hI : zInv S h) (hh : h ≤ 10000)   : az_R d am_m_X9_isWell 0 (az_ini (am_mL am_m_X9_isWell) [az_r 0]) [] (s) (fun o t => o = .inl (some (az_i (az_b (S 5 = zsg S 1 + zst S 1 + zchs S)))) ∧ zFq s t) := by
  have hz := zI_h hI hh
  have hw1 := zsg_r hI hh (k := 1) (by omega)
  have hw2 := zst_r hI hh
  have hw3 := zchs_r hI hh
  have hw4 := zcnt_r (zn S 1) (fun t => ¬ zT S t 0 = -1)
  have hw5 := zcnt_r (zn S 0) (fun b => 0 ≤ zat S b)
  have hw6 : zcp S = zs (zn S 1) (fun t => az_b (¬ zT S t 0 = -1)) := rfl
  have hw7 : zcc S = zs (zn S 0) (fun b => az_b (0 ≤ zat S b)) := rfl
  rw [← hw6] at hw4
  rw [← hw7] at hw5
  refine az_to 0 (pc2 := 0) (lv2 := [some (az_r 0), none]) (st2 := []) (s2 := s) rfl ?_
  refine az_to 3 (pc2 := 5) (lv2 := [some (az_r 0), none]) (st2 := [az_i (1), az_r 1]) (s2 := s) rfl ?_
  refine az_clv (v := some (az_i (zsg S 1))) (t := s) (m2 := am_m_X8_sumOfGoats) (as := [az_r 1, az_i (1)]) (rest := []) 8 rfl rfl ⟨rfl, rfl⟩ (by omega) (zs_X8_sumOfGoats (s := s) (k0 := 1) (by omega) hR hI hh (by omega)) ?_
  refine az_to 0 (pc2 := 8) (lv2 := [some (az_r 0), none]) (st2 := [az_i (zsg S 1)]) (s2 := s) rfl ?_
  refine az_to 3 (pc2 := 13) (lv2 := [some (az_r 0), none]) (st2 := [az_i (1), az_r 1, az_i (zsg S 1)]) (s2 := s) rfl ?_
  refine az_clv (v := some (az_i (zst S 1))) (t := s) (m2 := am_m_X8_sumOfTrolls) (as := [az_r 1, az_i (1)]) (rest := [az_i (zsg S 1)]) 16 rfl rfl ⟨rfl, rfl⟩ (by omega) (zs_X8_sumOfTrolls (s := s) (k0 := 1) (by omega) hR hI hh (by omega)) ?_
  refine az_to 0 (pc2 := 16) (lv2 := [some (az_r 0), none]) (st2 := [az_i (zst S 1), az_i (zsg S 1)]) (s2 := s) rfl ?_
  refine az_to 3 (pc2 := 21) (lv2 := [some (az_r 0), none]) (st2 := [az_r 1, az_i ((zsg S 1 + zst S 1))]) (s2 := s) rfl ?_
  refine az_clv (v := some (az_i (zchs S))) (t := s) (m2 := am_m_X8_coinsInChests) (as := [az_r 1]) (rest := [az_i ((zsg S 1 + zst S 1))]) 24 rfl rfl ⟨rfl, rfl⟩ (by omega) (zs_X8_coinsInChests (s := s)  (by omega) hR hI hh) ?_
  refine az_to 0 (pc2 := 24) (lv2 := [some (az_r 0), none]) (st2 := [az_i (zchs S), az_i ((zsg S 1 + zst S 1))]) (s2 := s) rfl ?_
  refine az_to 4 (pc2 := 30) (lv2 := [some (az_r 0), some (az_i (((zsg S 1 + zst S 1) + zchs S)))]) (st2 := [az_r 1]) (s2 := s) rfl ?_
  refine az_clv (v := some (az_i (zcp S))) (t := s) (m2 := am_m_X8_countTrollsPosted) (as := [az_r 1]) (rest := []) 33 rfl rfl ⟨rfl, rfl⟩ (by omega) (zs_X8_countTrollsPosted (s := s)  (by omega) hR hI hh) ?_
  refine az_to 0 (pc2 := 33) (lv2 := [some (az_r 0), some (az_i (((zsg S 1 + zst S 1) + zchs S)))]) (st2 := [az_i (zcp S)]) (s2 := s) rfl ?_
  refine az_to 2 (pc2 := 37) (lv2 := [some (az_r 0), some (az_i (((zsg S 1 + zst S 1) + zchs S)))]) (st2 := [az_r 1, az_i (zcp S)]) (s2 := s) rfl ?_
  refine az_clv (v := some (az_i (zcc S))) (t := s) (m2 := am_m_X8_countBridgesCounted) (as := [az_r 1]) (rest := [az_i (zcp S)]) 40 rfl rfl ⟨rfl, rfl⟩ (by omega) (zs_X8_countBridgesCounted (s := s)  (by omega) hR hI hh) ?_
  refine az_to 0 (pc2 := 40) (lv2 := [some (az_r 0), some (az_i (((zsg S 1 + zst S 1) + zchs S)))]) (st2 := [az_i (zcc S), az_i (zcp S)]) (s2 := s) rfl ?_
  refine az_if2 81 43 rfl (by decide) (by first | assumption | exact ⟨by omega, by omega⟩) (by first | assumption | exact ⟨by omega, by omega⟩) (fun h1 => ?_) (fun h1 => ?_)
  · have h1 : ¬ zcp S = zcc S := h1
    exact absurd (zcp_zcc hI) h1
  · have h1 : zcp S = zcc S := Decidable.not_not.mp h1
    refine az_to 3 (pc2 := 48) (lv2 := [some (az_r 0), some (az_i (((zsg S 1 + zst S 1) + zchs S)))]) (st2 := [az_i (0), az_r 6]) (s2 := s) rfl ?_
    refine az_cl (m2 := am_m_X7_areAlike) (as := [az_r 6, az_i (0)]) (rest := []) 51 rfl rfl ⟨rfl, rfl⟩ (by omega) (zs_X7_areAlike_0 (s := s)  (by omega) hR hI hh) (fun v2 t2 q2 => ?_) (fun E t2 q2 => by cases q2.1)
    obtain ⟨o2, gg2⟩ := q2
    cases o2
    refine az_to 0 (pc2 := 51) (lv2 := [some (az_r 0), some (az_i (((zsg S 1 + zst S 1) + zchs S)))]) (st2 := [az_i (1)]) (s2 := t2) rfl ?_
    have hR1 : zRel (t2 3) S := by rw [gg2 3 (by decide) (by decide) (by decide) (by decide)]; exact hR
    refine az_ifc 81 54 rfl (by decide) ⟨by decide, by decide⟩ (fun h => absurd h (by unfold az_cnd; decide)) (fun _ => ?_)
    refine az_to 3 (pc2 := 59) (lv2 := [some (az_r 0), some (az_i (((zsg S 1 + zst S 1) + zchs S)))]) (st2 := [az_i (1), az_r 6]) (s2 := t2) rfl ?_
    refine az_cl (m2 := am_m_X7_areAlike) (as := [az_r 6, az_i (1)]) (rest := []) 62 rfl rfl ⟨rfl, rfl⟩ (by omega) (zs_X7_areAlike_1 (s := t2)  (by omega) hR1 hI hh) (fun v3 t3 q3 => ?_) (fun E t3 q3 => by cases q3.1)
    obtain ⟨o3, gg3⟩ := q3
    cases o3
    refine az_to 0 (pc2 := 62) (lv2 := [some (az_r 0), some (az_i (((zsg S 1 + zst S 1) + zchs S)))]) (st2 := [az_i (1)]) (s2 := t3) rfl ?_
    have hR2 : zRel (t3 3) S := by rw [gg3 3 (by decide) (by decide) (by decide) (by decide)]; exact hR1
    refine az_ifc 81 65 rfl (by decide) ⟨by decide, by decide⟩ (fun h => absurd h (by unfold az_cnd; decide)) (fun _ => ?_)
    refine az_to 3 (pc2 := 70) (lv2 := [some (az_r 0), some (az_i (((zsg S 1 + zst S 1) + zchs S)))]) (st2 := [az_i (1), az_r 1]) (s2 := t3) rfl ?_
    refine az_clv (v := some (az_i (S 5))) (t := t3) (m2 := am_m_X8_of) (as := [az_r 1, az_i (1)]) (rest := []) 73 rfl rfl ⟨rfl, rfl⟩ (by omega) (zs_X8_of_1 (s := t3)  (by omega) hR2 hI hh) ?_
    refine az_to 0 (pc2 := 73) (lv2 := [some (az_r 0), some (az_i (((zsg S 1 + zst S 1) + zchs S)))]) (st2 := [az_i (S 5)]) (s2 := t3) rfl ?_
    refine az_to 1 (pc2 := 74) (lv2 := [some (az_r 0), some (az_i (((zsg S 1 + zst S 1) + zchs S)))]) (st2 := [az_i (((zsg S 1 + zst S 1) + zchs S)), az_i (S 5)]) (s2 := t3) rfl ?_
    refine az_if2 81 77 rfl (by decide) (by first | assumption | exact ⟨by omega, by omega⟩) (by first | assumption | exact ⟨by omega, by omega⟩) (fun h4 => ?_) (fun h4 => ?_)
    · have h4 : ¬ S 5 = ((zsg S 1 + zst S 1) + zchs S) := h4
      refine az_to 1 (pc2 := 82) (lv2 := [some (az_r 0), some (az_i (((zsg S 1 + zst S 1) + zchs S)))]) (st2 := [az_i (0)]) (s2 := t3) rfl ?_
      refine az_retB rfl rfl (by first | decide | omega | exact Or.inl rfl | exact Or.inr rfl) ?_
      exact ⟨by rw [az_b0 (by omega)], fun i i8 i10 i12 i14 i16 => by rw [gg3 i i10 i8 i12 i14, gg2 i i10 i8 i12 i14]⟩
    · have h4 : S 5 = ((zsg S 1 + zst S 1) + zchs S) := Decidable.not_not.mp h4
      refine az_to 2 (pc2 := 82) (lv2 := [some (az_r 0), some (az_i (((zsg S 1 + zst S 1) + zchs S)))]) (st2 := [az_i (1)]) (s2 := t3) rfl ?_
      refine az_retB rfl rfl (by first | decide | omega | exact Or.inl rfl | exact Or.inr rfl) ?_
      exact ⟨by rw [az_b1 (by omega)], fun i i8 i10 i12 i14 i16 => by rw [gg3 i i10 i8 i12 i14, gg2 i i10 i8 i12 i14]⟩

