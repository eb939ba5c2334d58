/-! THE LAW, 6: questions with what is caught, read, undo, restore; written by program (wip/p47tools/l66.py) -/
/-- a question's answer, what is caught told by its number -/
def zqw (r : Nat × Int) : Int := if r.1 = 0 then r.2 else if r.1 = 1 then -900001 else -900002
theorem zqw_0 {r : Nat × Int} (h : r.1 = 0) : zqw r = r.2 := if_pos h
theorem zqw_1 {r : Nat × Int} (h : r.1 = 1) : zqw r = -900001 := by unfold zqw; rw [if_neg (by omega), if_pos h]
theorem zqw_2 {r : Nat × Int} (h : r.1 = 2) : zqw r = -900002 := by unfold zqw; rw [if_neg (by omega), if_neg (by omega)]
theorem zq_way_2 (S : zR) (m : Nat) (f v : Int) : (zq_way S m f v).1 ≤ 2 := by
  unfold zq_way
  split
  · exact (by decide : 1 ≤ 2)
  split
  · exact Nat.le_refl 2
  · exact Nat.zero_le _
theorem zq_hangs_2 (S : zR) (f v : Int) : (zq_hangs S f v).1 ≤ 2 := by
  unfold zq_hangs
  split
  · exact (by decide : 1 ≤ 2)
  split
  · exact Nat.le_refl 2
  · exact Nat.zero_le _
theorem zq_richest_2 (S : zR) (p : Int) : (zq_richest S p).1 ≤ 1 := by
  unfold zq_richest
  split
  · exact Nat.zero_le _
  · exact Nat.le_refl 1
theorem zq_tired_2 (S : zR) (p : Int) : (zq_tired S p).1 ≤ 1 := by
  unfold zq_tired
  split
  · exact Nat.zero_le _
  · exact Nat.le_refl 1
theorem zq_next_2 (S : zR) : (zq_next S).1 ≤ 1 := by
  unfold zq_next
  split
  · exact Nat.le_refl 1
  · exact Nat.zero_le _
set_option maxRecDepth 100000 in
theorem lw_cheapest {L : Nat} {xs : Nat → Int32} {tx : Nat → Option String} (htx : ∀ i t, am_sx[i]? = some t → tx i = some t) {d : Nat} (hd : 14 ≤ d) {s : az_S} {S : zR} {h c : Nat} {G : Nat → zR} (H : zkS s S h c G) (hh : h ≤ 9000) {e : List Nat} {N M : Nat} (hN : 1 ≤ N) (hM : 6 ≤ M) {zf0 : Int} (h_zf0 : az_in zf0) {zv : Int} (h_zv : az_in zv) : bz_R L xs tx d am_m_L_cheapest 0 (az_ini (am_mL am_m_L_cheapest) [az_r (0), az_i (zf0), az_i (zv)]) [] e s N M (lwq e s (zqw (zq_way S 0 zf0 zv))) := by
  obtain ⟨hR, hI, hJ, hM0⟩ := zkS_R H
  have hh9 : h ≤ 10000 := by omega
  refine bz_to 0 (pc2 := 0) (lv2 := [some (az_r (0)), some (az_i (zf0)), some (az_i (zv)), none]) (st2 := []) (s2 := s) (rfl) ?_
  refine bz_to 3 (pc2 := 3) (lv2 := [some (az_r (0)), some (az_i (zf0)), some (az_i (zv)), none]) (st2 := [az_i (zv), az_i (zf0), az_r (0)]) (s2 := s) (rfl) ?_
  refine bz_c htx 6 (m2 := am_m_X9_cheapest) (as := [az_r (0), az_i (zf0), az_i (zv)]) (rest := []) rfl rfl rfl (by omega) (zs_X9_cheapest (by omega) hR hI hh9 h_zf0 h_zv) (fun v t q => ?_) (fun E t q => ?_)
  · obtain ⟨r1, rfl⟩ := zoe_l q.1
    exact bz_retI rfl rfl ⟨by rw [zqw_0 r1], rfl, zKq_f q.2⟩
  · obtain ⟨r1, rE⟩ := zoe_r q.1
    have r2 : (zq_way S 0 zf0 zv).1 ≤ 2 := zq_way_2 S 0 zf0 zv
    have r3 : (zq_way S 0 zf0 zv).1 = 1 ∨ (zq_way S 0 zf0 zv).1 = 2 := by omega
    rcases r3 with k1 | k1
    · rw [k1] at rE
      have rE : E = 3 := rE
      subst rE
      refine ⟨7, 8, [some (az_r (0)), some (az_i (zf0)), some (az_i (zv)), none], N - 1, M - 6, by omega, by omega, rfl, rfl, ?_⟩
      refine bz_to 1 (pc2 := 10) (lv2 := [some (az_r (0)), some (az_i (zf0)), some (az_i (zv)), none]) (st2 := [az_i (-900001)]) (s2 := t) (rfl) ?_
      exact bz_retI rfl rfl ⟨by rw [zqw_1 k1], rfl, zKq_f q.2⟩
    · rw [k1] at rE
      have rE : E = 5 := rE
      subst rE
      refine ⟨11, 12, [some (az_r (0)), some (az_i (zf0)), some (az_i (zv)), none], N - 1, M - 6, by omega, by omega, rfl, rfl, ?_⟩
      refine bz_to 1 (pc2 := 14) (lv2 := [some (az_r (0)), some (az_i (zf0)), some (az_i (zv)), none]) (st2 := [az_i (-900002)]) (s2 := t) (rfl) ?_
      exact bz_retI rfl rfl ⟨by rw [zqw_2 k1], rfl, zKq_f q.2⟩
set_option maxRecDepth 100000 in
theorem lw_cheapestAgain {L : Nat} {xs : Nat → Int32} {tx : Nat → Option String} (htx : ∀ i t, am_sx[i]? = some t → tx i = some t) {d : Nat} (hd : 14 ≤ d) {s : az_S} {S : zR} {h c : Nat} {G : Nat → zR} (H : zkS s S h c G) (hh : h ≤ 9000) {e : List Nat} {N M : Nat} (hN : 1 ≤ N) (hM : 6 ≤ M) {zf0 : Int} (h_zf0 : az_in zf0) {zv : Int} (h_zv : az_in zv) : bz_R L xs tx d am_m_L_cheapestAgain 0 (az_ini (am_mL am_m_L_cheapestAgain) [az_r (0), az_i (zf0), az_i (zv)]) [] e s N M (lwq e s (zqw (zq_way S 0 zf0 zv))) := by
  obtain ⟨hR, hI, hJ, hM0⟩ := zkS_R H
  have hh9 : h ≤ 10000 := by omega
  refine bz_to 0 (pc2 := 0) (lv2 := [some (az_r (0)), some (az_i (zf0)), some (az_i (zv)), none]) (st2 := []) (s2 := s) (rfl) ?_
  refine bz_to 3 (pc2 := 3) (lv2 := [some (az_r (0)), some (az_i (zf0)), some (az_i (zv)), none]) (st2 := [az_i (zv), az_i (zf0), az_r (0)]) (s2 := s) (rfl) ?_
  refine bz_c htx 6 (m2 := am_m_X9_cheapestAgain) (as := [az_r (0), az_i (zf0), az_i (zv)]) (rest := []) rfl rfl rfl (by omega) (zs_X9_cheapestAgain (by omega) hR hI hh9 h_zf0 h_zv) (fun v t q => ?_) (fun E t q => ?_)
  · obtain ⟨r1, rfl⟩ := zoe_l q.1
    exact bz_retI rfl rfl ⟨by rw [zqw_0 r1], rfl, zKq_f q.2⟩
  · obtain ⟨r1, rE⟩ := zoe_r q.1
    have r2 : (zq_way S 0 zf0 zv).1 ≤ 2 := zq_way_2 S 0 zf0 zv
    have r3 : (zq_way S 0 zf0 zv).1 = 1 ∨ (zq_way S 0 zf0 zv).1 = 2 := by omega
    rcases r3 with k1 | k1
    · rw [k1] at rE
      have rE : E = 3 := rE
      subst rE
      refine ⟨7, 8, [some (az_r (0)), some (az_i (zf0)), some (az_i (zv)), none], N - 1, M - 6, by omega, by omega, rfl, rfl, ?_⟩
      refine bz_to 1 (pc2 := 10) (lv2 := [some (az_r (0)), some (az_i (zf0)), some (az_i (zv)), none]) (st2 := [az_i (-900001)]) (s2 := t) (rfl) ?_
      exact bz_retI rfl rfl ⟨by rw [zqw_1 k1], rfl, zKq_f q.2⟩
    · rw [k1] at rE
      have rE : E = 5 := rE
      subst rE
      refine ⟨11, 12, [some (az_r (0)), some (az_i (zf0)), some (az_i (zv)), none], N - 1, M - 6, by omega, by omega, rfl, rfl, ?_⟩
      refine bz_to 1 (pc2 := 14) (lv2 := [some (az_r (0)), some (az_i (zf0)), some (az_i (zv)), none]) (st2 := [az_i (-900002)]) (s2 := t) (rfl) ?_
      exact bz_retI rfl rfl ⟨by rw [zqw_2 k1], rfl, zKq_f q.2⟩
set_option maxRecDepth 100000 in
theorem lw_fastest {L : Nat} {xs : Nat → Int32} {tx : Nat → Option String} (htx : ∀ i t, am_sx[i]? = some t → tx i = some t) {d : Nat} (hd : 14 ≤ d) {s : az_S} {S : zR} {h c : Nat} {G : Nat → zR} (H : zkS s S h c G) (hh : h ≤ 9000) {e : List Nat} {N M : Nat} (hN : 1 ≤ N) (hM : 6 ≤ M) {zf0 : Int} (h_zf0 : az_in zf0) {zv : Int} (h_zv : az_in zv) : bz_R L xs tx d am_m_L_fastest 0 (az_ini (am_mL am_m_L_fastest) [az_r (0), az_i (zf0), az_i (zv)]) [] e s N M (lwq e s (zqw (zq_way S 1 zf0 zv))) := by
  obtain ⟨hR, hI, hJ, hM0⟩ := zkS_R H
  have hh9 : h ≤ 10000 := by omega
  refine bz_to 0 (pc2 := 0) (lv2 := [some (az_r (0)), some (az_i (zf0)), some (az_i (zv)), none]) (st2 := []) (s2 := s) (rfl) ?_
  refine bz_to 3 (pc2 := 3) (lv2 := [some (az_r (0)), some (az_i (zf0)), some (az_i (zv)), none]) (st2 := [az_i (zv), az_i (zf0), az_r (0)]) (s2 := s) (rfl) ?_
  refine bz_c htx 6 (m2 := am_m_X9_fastest) (as := [az_r (0), az_i (zf0), az_i (zv)]) (rest := []) rfl rfl rfl (by omega) (zs_X9_fastest (by omega) hR hI hh9 h_zf0 h_zv) (fun v t q => ?_) (fun E t q => ?_)
  · obtain ⟨r1, rfl⟩ := zoe_l q.1
    exact bz_retI rfl rfl ⟨by rw [zqw_0 r1], rfl, zKq_f q.2⟩
  · obtain ⟨r1, rE⟩ := zoe_r q.1
    have r2 : (zq_way S 1 zf0 zv).1 ≤ 2 := zq_way_2 S 1 zf0 zv
    have r3 : (zq_way S 1 zf0 zv).1 = 1 ∨ (zq_way S 1 zf0 zv).1 = 2 := by omega
    rcases r3 with k1 | k1
    · rw [k1] at rE
      have rE : E = 3 := rE
      subst rE
      refine ⟨7, 8, [some (az_r (0)), some (az_i (zf0)), some (az_i (zv)), none], N - 1, M - 6, by omega, by omega, rfl, rfl, ?_⟩
      refine bz_to 1 (pc2 := 10) (lv2 := [some (az_r (0)), some (az_i (zf0)), some (az_i (zv)), none]) (st2 := [az_i (-900001)]) (s2 := t) (rfl) ?_
      exact bz_retI rfl rfl ⟨by rw [zqw_1 k1], rfl, zKq_f q.2⟩
    · rw [k1] at rE
      have rE : E = 5 := rE
      subst rE
      refine ⟨11, 12, [some (az_r (0)), some (az_i (zf0)), some (az_i (zv)), none], N - 1, M - 6, by omega, by omega, rfl, rfl, ?_⟩
      refine bz_to 1 (pc2 := 14) (lv2 := [some (az_r (0)), some (az_i (zf0)), some (az_i (zv)), none]) (st2 := [az_i (-900002)]) (s2 := t) (rfl) ?_
      exact bz_retI rfl rfl ⟨by rw [zqw_2 k1], rfl, zKq_f q.2⟩
set_option maxRecDepth 100000 in
theorem lw_fastestAgain {L : Nat} {xs : Nat → Int32} {tx : Nat → Option String} (htx : ∀ i t, am_sx[i]? = some t → tx i = some t) {d : Nat} (hd : 14 ≤ d) {s : az_S} {S : zR} {h c : Nat} {G : Nat → zR} (H : zkS s S h c G) (hh : h ≤ 9000) {e : List Nat} {N M : Nat} (hN : 1 ≤ N) (hM : 6 ≤ M) {zf0 : Int} (h_zf0 : az_in zf0) {zv : Int} (h_zv : az_in zv) : bz_R L xs tx d am_m_L_fastestAgain 0 (az_ini (am_mL am_m_L_fastestAgain) [az_r (0), az_i (zf0), az_i (zv)]) [] e s N M (lwq e s (zqw (zq_way S 1 zf0 zv))) := by
  obtain ⟨hR, hI, hJ, hM0⟩ := zkS_R H
  have hh9 : h ≤ 10000 := by omega
  refine bz_to 0 (pc2 := 0) (lv2 := [some (az_r (0)), some (az_i (zf0)), some (az_i (zv)), none]) (st2 := []) (s2 := s) (rfl) ?_
  refine bz_to 3 (pc2 := 3) (lv2 := [some (az_r (0)), some (az_i (zf0)), some (az_i (zv)), none]) (st2 := [az_i (zv), az_i (zf0), az_r (0)]) (s2 := s) (rfl) ?_
  refine bz_c htx 6 (m2 := am_m_X9_fastestAgain) (as := [az_r (0), az_i (zf0), az_i (zv)]) (rest := []) rfl rfl rfl (by omega) (zs_X9_fastestAgain (by omega) hR hI hh9 h_zf0 h_zv) (fun v t q => ?_) (fun E t q => ?_)
  · obtain ⟨r1, rfl⟩ := zoe_l q.1
    exact bz_retI rfl rfl ⟨by rw [zqw_0 r1], rfl, zKq_f q.2⟩
  · obtain ⟨r1, rE⟩ := zoe_r q.1
    have r2 : (zq_way S 1 zf0 zv).1 ≤ 2 := zq_way_2 S 1 zf0 zv
    have r3 : (zq_way S 1 zf0 zv).1 = 1 ∨ (zq_way S 1 zf0 zv).1 = 2 := by omega
    rcases r3 with k1 | k1
    · rw [k1] at rE
      have rE : E = 3 := rE
      subst rE
      refine ⟨7, 8, [some (az_r (0)), some (az_i (zf0)), some (az_i (zv)), none], N - 1, M - 6, by omega, by omega, rfl, rfl, ?_⟩
      refine bz_to 1 (pc2 := 10) (lv2 := [some (az_r (0)), some (az_i (zf0)), some (az_i (zv)), none]) (st2 := [az_i (-900001)]) (s2 := t) (rfl) ?_
      exact bz_retI rfl rfl ⟨by rw [zqw_1 k1], rfl, zKq_f q.2⟩
    · rw [k1] at rE
      have rE : E = 5 := rE
      subst rE
      refine ⟨11, 12, [some (az_r (0)), some (az_i (zf0)), some (az_i (zv)), none], N - 1, M - 6, by omega, by omega, rfl, rfl, ?_⟩
      refine bz_to 1 (pc2 := 14) (lv2 := [some (az_r (0)), some (az_i (zf0)), some (az_i (zv)), none]) (st2 := [az_i (-900002)]) (s2 := t) (rfl) ?_
      exact bz_retI rfl rfl ⟨by rw [zqw_2 k1], rfl, zKq_f q.2⟩
set_option maxRecDepth 100000 in
theorem lw_hangs {L : Nat} {xs : Nat → Int32} {tx : Nat → Option String} (htx : ∀ i t, am_sx[i]? = some t → tx i = some t) {d : Nat} (hd : 14 ≤ d) {s : az_S} {S : zR} {h c : Nat} {G : Nat → zR} (H : zkS s S h c G) (hh : h ≤ 9000) {e : List Nat} {N M : Nat} (hN : 1 ≤ N) (hM : 6 ≤ M) {zf0 : Int} (h_zf0 : az_in zf0) {zv : Int} (h_zv : az_in zv) : bz_R L xs tx d am_m_L_hangs 0 (az_ini (am_mL am_m_L_hangs) [az_r (0), az_i (zf0), az_i (zv)]) [] e s N M (lwq e s (zqw (zq_hangs S zf0 zv))) := by
  obtain ⟨hR, hI, hJ, hM0⟩ := zkS_R H
  have hh9 : h ≤ 10000 := by omega
  refine bz_to 0 (pc2 := 0) (lv2 := [some (az_r (0)), some (az_i (zf0)), some (az_i (zv)), none]) (st2 := []) (s2 := s) (rfl) ?_
  refine bz_to 3 (pc2 := 3) (lv2 := [some (az_r (0)), some (az_i (zf0)), some (az_i (zv)), none]) (st2 := [az_i (zv), az_i (zf0), az_r (0)]) (s2 := s) (rfl) ?_
  refine bz_c htx 6 (m2 := am_m_X9_hangs) (as := [az_r (0), az_i (zf0), az_i (zv)]) (rest := []) rfl rfl rfl (by omega) (zs_X9_hangs (by omega) hR hI hh9 h_zf0 h_zv) (fun v t q => ?_) (fun E t q => ?_)
  · obtain ⟨r1, rfl⟩ := zoe_l q.1
    exact bz_retI rfl rfl ⟨by rw [zqw_0 r1], rfl, zKq_f q.2⟩
  · obtain ⟨r1, rE⟩ := zoe_r q.1
    have r2 : (zq_hangs S zf0 zv).1 ≤ 2 := zq_hangs_2 S  zf0 zv
    have r3 : (zq_hangs S zf0 zv).1 = 1 ∨ (zq_hangs S zf0 zv).1 = 2 := by omega
    rcases r3 with k1 | k1
    · rw [k1] at rE
      have rE : E = 3 := rE
      subst rE
      refine ⟨7, 8, [some (az_r (0)), some (az_i (zf0)), some (az_i (zv)), none], N - 1, M - 6, by omega, by omega, rfl, rfl, ?_⟩
      refine bz_to 1 (pc2 := 10) (lv2 := [some (az_r (0)), some (az_i (zf0)), some (az_i (zv)), none]) (st2 := [az_i (-900001)]) (s2 := t) (rfl) ?_
      exact bz_retI rfl rfl ⟨by rw [zqw_1 k1], rfl, zKq_f q.2⟩
    · rw [k1] at rE
      have rE : E = 5 := rE
      subst rE
      refine ⟨11, 12, [some (az_r (0)), some (az_i (zf0)), some (az_i (zv)), none], N - 1, M - 6, by omega, by omega, rfl, rfl, ?_⟩
      refine bz_to 1 (pc2 := 14) (lv2 := [some (az_r (0)), some (az_i (zf0)), some (az_i (zv)), none]) (st2 := [az_i (-900002)]) (s2 := t) (rfl) ?_
      exact bz_retI rfl rfl ⟨by rw [zqw_2 k1], rfl, zKq_f q.2⟩
set_option maxRecDepth 100000 in
theorem lw_richest {L : Nat} {xs : Nat → Int32} {tx : Nat → Option String} (htx : ∀ i t, am_sx[i]? = some t → tx i = some t) {d : Nat} (hd : 14 ≤ d) {s : az_S} {S : zR} {h c : Nat} {G : Nat → zR} (H : zkS s S h c G) (hh : h ≤ 9000) {e : List Nat} {N M : Nat} (hN : 1 ≤ N) (hM : 6 ≤ M) {zp : Int} (h_zp : az_in zp) : bz_R L xs tx d am_m_L_richest 0 (az_ini (am_mL am_m_L_richest) [az_r (0), az_i (zp)]) [] e s N M (lwq e s (zqw (zq_richest S zp))) := by
  obtain ⟨hR, hI, hJ, hM0⟩ := zkS_R H
  have hh9 : h ≤ 10000 := by omega
  refine bz_to 0 (pc2 := 0) (lv2 := [some (az_r (0)), some (az_i (zp)), none]) (st2 := []) (s2 := s) (rfl) ?_
  refine bz_to 2 (pc2 := 2) (lv2 := [some (az_r (0)), some (az_i (zp)), none]) (st2 := [az_i (zp), az_r (0)]) (s2 := s) (rfl) ?_
  refine bz_c htx 5 (m2 := am_m_X9_richest) (as := [az_r (0), az_i (zp)]) (rest := []) rfl rfl rfl (by omega) (zs_X9_richest (by omega) hR hI hh9 h_zp) (fun v t q => ?_) (fun E t q => ?_)
  · obtain ⟨r1, rfl⟩ := zoe_l q.1
    exact bz_retI rfl rfl ⟨by rw [zqw_0 r1], rfl, zKq_f q.2⟩
  · obtain ⟨r1, rE⟩ := zoe_r q.1
    have r2 : (zq_richest S zp).1 ≤ 1 := zq_richest_2 S  zp
    have r3 : (zq_richest S zp).1 = 1 := by omega
    have k1 := r3
    rw [k1] at rE
    have rE : E = 5 := rE
    subst rE
    refine ⟨6, 7, [some (az_r (0)), some (az_i (zp)), none], N - 1, M - 6, by omega, by omega, rfl, rfl, ?_⟩
    refine bz_to 1 (pc2 := 9) (lv2 := [some (az_r (0)), some (az_i (zp)), none]) (st2 := [az_i (-900001)]) (s2 := t) (rfl) ?_
    exact bz_retI rfl rfl ⟨by rw [zqw_1 k1], rfl, zKq_f q.2⟩
set_option maxRecDepth 100000 in
theorem lw_tired {L : Nat} {xs : Nat → Int32} {tx : Nat → Option String} (htx : ∀ i t, am_sx[i]? = some t → tx i = some t) {d : Nat} (hd : 14 ≤ d) {s : az_S} {S : zR} {h c : Nat} {G : Nat → zR} (H : zkS s S h c G) (hh : h ≤ 9000) {e : List Nat} {N M : Nat} (hN : 1 ≤ N) (hM : 6 ≤ M) {zp : Int} (h_zp : az_in zp) : bz_R L xs tx d am_m_L_tired 0 (az_ini (am_mL am_m_L_tired) [az_r (0), az_i (zp)]) [] e s N M (lwq e s (zqw (zq_tired S zp))) := by
  obtain ⟨hR, hI, hJ, hM0⟩ := zkS_R H
  have hh9 : h ≤ 10000 := by omega
  refine bz_to 0 (pc2 := 0) (lv2 := [some (az_r (0)), some (az_i (zp)), none]) (st2 := []) (s2 := s) (rfl) ?_
  refine bz_to 2 (pc2 := 2) (lv2 := [some (az_r (0)), some (az_i (zp)), none]) (st2 := [az_i (zp), az_r (0)]) (s2 := s) (rfl) ?_
  refine bz_c htx 5 (m2 := am_m_X9_tired) (as := [az_r (0), az_i (zp)]) (rest := []) rfl rfl rfl (by omega) (zs_X9_tired (by omega) hR hI hh9 h_zp) (fun v t q => ?_) (fun E t q => ?_)
  · obtain ⟨r1, rfl⟩ := zoe_l q.1
    exact bz_retI rfl rfl ⟨by rw [zqw_0 r1], rfl, zKq_f q.2⟩
  · obtain ⟨r1, rE⟩ := zoe_r q.1
    have r2 : (zq_tired S zp).1 ≤ 1 := zq_tired_2 S  zp
    have r3 : (zq_tired S zp).1 = 1 := by omega
    have k1 := r3
    rw [k1] at rE
    have rE : E = 5 := rE
    subst rE
    refine ⟨6, 7, [some (az_r (0)), some (az_i (zp)), none], N - 1, M - 6, by omega, by omega, rfl, rfl, ?_⟩
    refine bz_to 1 (pc2 := 9) (lv2 := [some (az_r (0)), some (az_i (zp)), none]) (st2 := [az_i (-900001)]) (s2 := t) (rfl) ?_
    exact bz_retI rfl rfl ⟨by rw [zqw_1 k1], rfl, zKq_f q.2⟩
set_option maxRecDepth 100000 in
theorem lw_next {L : Nat} {xs : Nat → Int32} {tx : Nat → Option String} (htx : ∀ i t, am_sx[i]? = some t → tx i = some t) {d : Nat} (hd : 14 ≤ d) {s : az_S} {S : zR} {h c : Nat} {G : Nat → zR} (H : zkS s S h c G) (hh : h ≤ 9000) {e : List Nat} {N M : Nat} (hN : 1 ≤ N) (hM : 6 ≤ M)  : bz_R L xs tx d am_m_L_next 0 (az_ini (am_mL am_m_L_next) [az_r (0)]) [] e s N M (lwq e s (zqw (zq_next S))) := by
  obtain ⟨hR, hI, hJ, hM0⟩ := zkS_R H
  have hh9 : h ≤ 10000 := by omega
  refine bz_to 0 (pc2 := 0) (lv2 := [some (az_r (0)), none]) (st2 := []) (s2 := s) (rfl) ?_
  refine bz_to 1 (pc2 := 1) (lv2 := [some (az_r (0)), none]) (st2 := [az_r (0)]) (s2 := s) (rfl) ?_
  refine bz_c htx 4 (m2 := am_m_X9_next) (as := [az_r (0)]) (rest := []) rfl rfl rfl (by omega) (zs_X9_next (by omega) hR hI hh9 ) (fun v t q => ?_) (fun E t q => ?_)
  · obtain ⟨r1, rfl⟩ := zoe_l q.1
    exact bz_retI rfl rfl ⟨by rw [zqw_0 r1], rfl, zKq_f q.2⟩
  · obtain ⟨r1, rE⟩ := zoe_r q.1
    have r2 : (zq_next S).1 ≤ 1 := zq_next_2 S  
    have r3 : (zq_next S).1 = 1 := by omega
    have k1 := r3
    rw [k1] at rE
    have rE : E = 5 := rE
    subst rE
    refine ⟨5, 6, [some (az_r (0)), none], N - 1, M - 6, by omega, by omega, rfl, rfl, ?_⟩
    refine bz_to 1 (pc2 := 8) (lv2 := [some (az_r (0)), none]) (st2 := [az_i (-900001)]) (s2 := t) (rfl) ?_
    exact bz_retI rfl rfl ⟨by rw [zqw_1 k1], rfl, zKq_f q.2⟩
/-- one place of the past back -/
theorem va_cpy_i {f g : Nat → Int} {a b n j : Nat} (h : b ≤ j ∧ j < b + n) : va_cpy f g a b n j = f (a + (j - b)) := by
  unfold va_cpy
  rw [if_pos h]
theorem zkS_undo {s t : az_S} {S : zR} {h c p : Nat} {G : Nat → zR} (hp : p ≤ 8) (hc : c + 1 ≤ 8) (hG : ∀ i, i < c + 1 → zkk (fun j => s 19 ((p + 9 - (c + 1) + i) % 9 * 184 + j)) (G i) h) {q : Nat} (hq : q = (p + 8) % 9) (e1 : t 17 1 = ((q : Nat) : Int)) (e2 : t 17 2 = ((c : Nat) : Int)) (e19 : t 19 = s 19) {X : Nat → Int} (e3 : t 3 = va_cpy (s 19) X (q * 184) 0 184) (h22 : t 22 1 = 60 ∧ t 22 2 = 0) (h30 : t 30 1 = 16) : zkS t (G c) h c G := by
  refine ⟨?_, ⟨q, by omega, by omega, e1, e2, fun i hi => ?_⟩, h22, h30⟩
  · refine zkk_c (hG c (by omega)) (fun j hj => ?_)
    rw [e3, va_cpy_i ⟨by omega, by omega⟩]
    have : (p + 9 - (c + 1) + c) % 9 = q := by omega
    rw [this]
    congr 1
  · rw [e19]
    have : (q + 9 - c + i) % 9 = (p + 9 - (c + 1) + i) % 9 := by omega
    rw [this]
    exact hG i (by omega)
/-- what an undone change leaves -/
def lun (s t : az_S) (S : zR) (h c : Nat) (G : Nat → zR) : Prop := ((∀ i, 34 ≤ i → t i = s i) ∧ t 21 = s 21 ∧ t 0 5 = s 0 5) ∧ zkS t S h c G
set_option maxRecDepth 100000 in
theorem lw_undo {L : Nat} {xs : Nat → Int32} {tx : Nat → Option String} (htx : ∀ i t, am_sx[i]? = some t → tx i = some t) {d : Nat} (hd : 14 ≤ d) {s : az_S} {S : zR} {h c : Nat} {G : Nat → zR} (H : zkS s S h (c + 1) G) {e : List Nat} {N M : Nat} : bz_R L xs tx d am_m_L_undo 0 (az_ini (am_mL am_m_L_undo) [az_r 0]) [] e s N M (fun o e2 t => o = .inl (some (az_i ((c : Nat) : Int))) ∧ e2 = e ∧ lun s t (G c) h c G) := by
  obtain ⟨p, hp8, hc8, hp, hc, hG⟩ := H.2.1
  refine bz_to 0 (pc2 := 0) (lv2 := [some (az_r (0)), none]) (st2 := []) (s2 := s) (rfl) ?_
  refine bz_to 1 (pc2 := 1) (lv2 := [some (az_r (0)), none]) (st2 := [az_r (0)]) (s2 := s) (rfl) ?_
  by_cases q0 : p = 0
  · subst q0
    refine bz_cq htx 4 (m2 := am_m_X9_undo) (as := [az_r 0]) (rest := []) rfl rfl rfl (by omega) (zs_X9_undo_z (by omega) hp hc (by omega)) (fun v t q => ?_) (fun E t q => by cases q.1)
    obtain ⟨q1, q2⟩ := q
    cases q1
    refine bz_retI rfl rfl ⟨rfl, rfl, ⟨?_, ?_, ?_⟩, zkS_undo (s := s) (S := S) (p := 0) (q := 8) (by omega) hc8 hG rfl ?_ ?_ ?_ (by rw [q2]; exact am_ur_row _ _ _) ?_ ?_⟩
    · intro i hi
      rw [q2]
      funext j
      simp only [am_ur, am_up]
      rw [if_neg (by omega), if_neg (by omega), if_neg (by omega)]
    all_goals rw [q2]
    · rfl
    · rfl
    · rfl
    · rfl
    · rfl
    · exact H.2.2.1
    · exact H.2.2.2
  · obtain ⟨q, rfl⟩ : ∃ q, p = q + 1 := ⟨p - 1, by omega⟩
    refine bz_cq htx 4 (m2 := am_m_X9_undo) (as := [az_r 0]) (rest := []) rfl rfl rfl (by omega) (zs_X9_undo_p (by omega) hp (by omega) hc (by omega)) (fun v t q => ?_) (fun E t q => by cases q.1)
    obtain ⟨q1, q2⟩ := q
    cases q1
    refine bz_retI rfl rfl ⟨rfl, rfl, ⟨?_, ?_, ?_⟩, zkS_undo (s := s) (S := S) (p := q + 1) (q := q) (by omega) hc8 hG (by omega) ?_ ?_ ?_ (by rw [q2]; exact am_ur_row _ _ _) ?_ ?_⟩
    · intro i hi
      rw [q2]
      funext j
      simp only [am_ur, am_up]
      rw [if_neg (by omega), if_neg (by omega), if_neg (by omega)]
    all_goals rw [q2]
    · rfl
    · rfl
    · rfl
    · rfl
    · rfl
    · exact H.2.2.1
    · exact H.2.2.2
set_option maxRecDepth 100000 in
theorem lw_restore {L : Nat} {xs : Nat → Int32} {tx : Nat → Option String} (htx : ∀ i t, am_sx[i]? = some t → tx i = some t) {d : Nat} (hd : 14 ≤ d) {s : az_S} {S T : zR} {h c : Nat} {G : Nat → zR} (H : zkS s S h c G) (hh9 : h ≤ 10000) (hT : zkk (s 21) T h) (h05 : s 0 5 = 1) {e : List Nat} {N M : Nat} : bz_R L xs tx d am_m_L_restore 0 (az_ini (am_mL am_m_L_restore) [az_r 0]) [] e s N M (fun o e2 t => o = .inl (some (az_i ((zn T 0 : Nat) : Int))) ∧ e2 = e ∧ lun s t T h 0 G) := by
  obtain ⟨p, hp8, hc8, hp, hc, hG⟩ := H.2.1
  refine bz_to 0 (pc2 := 0) (lv2 := [some (az_r (0)), none]) (st2 := []) (s2 := s) (rfl) ?_
  refine bz_to 1 (pc2 := 1) (lv2 := [some (az_r (0)), none]) (st2 := [az_r (0)]) (s2 := s) (rfl) ?_
  have hT2 : zkk (va_cpy (s 21) (s 3) 0 0 184) T h := zkk_c hT (fun j hj => by rw [va_cpy_i ⟨by omega, by omega⟩]; congr 1; omega)
  refine bz_cq htx 4 (m2 := am_m_X9_restore) (as := [az_r 0]) (rest := []) rfl rfl rfl (by omega) (zs_X9_restore_y (by omega) hT2.1.1 hT2.1.2.1 hh9 h05) (fun v t q => ?_) (fun E t q => by cases q.1)
  obtain ⟨q1, q2⟩ := q
  cases q1
  refine bz_retI rfl rfl ⟨rfl, rfl, ⟨?_, ?_, ?_⟩, ?_, ⟨p, hp8, Nat.zero_le _, ?_, ?_, fun i hi => absurd hi (by omega)⟩, ?_, ?_⟩
  · intro i hi
    rw [q2]
    funext j
    simp only [am_ur, am_up]
    rw [if_neg (by omega), if_neg (by omega)]
  all_goals rw [q2]
  · rfl
  · rfl
  · exact hT2
  · exact hp
  · rfl
  · exact H.2.2.1
  · exact H.2.2.2
theorem lk_show {s : az_S} {S : zR} {h c d : Nat} {G : Nat → zR} (H : zkS s S h c G) (hh : h ≤ 10000) (hd : 12 ≤ d) {w : Int} (hw : 0 ≤ w ∧ w ≤ 5) : az_R d am_m_X9_show 0 (az_ini (am_mL am_m_X9_show) [az_r 0, az_i w]) [] s (lkq s ((zsh S w.toNat).length : Int)) := by
  obtain ⟨hR, hI, hJ, -⟩ := zkS_R H
  have e : zq_show S w = (0, ((zsh S w.toNat).length : Int)) := by unfold zq_show; rw [if_neg (not_not_intro hw)]
  refine az_post (zs_X9_show (by omega) hR hI hh (zf0 := w) ⟨by omega, by omega⟩ H.2.2.2) (fun o t q => ?_)
  rw [e] at q
  obtain ⟨q1, q2, -⟩ := q
  obtain ⟨q3, q4, q5, q6⟩ := q2 rfl
  refine ⟨q1, ⟨q6 3 (by decide) (by decide) (by decide) (by decide) (by decide) (by decide), q6 17 (by decide) (by decide) (by decide) (by decide) (by decide) (by decide), q6 19 (by decide) (by decide) (by decide) (by decide) (by decide) (by decide), q6 21 (by decide) (by decide) (by decide) (by decide) (by decide) (by decide), q6 22 (by decide) (by decide) (by decide) (by decide) (by decide) (by decide), q6 0 (by decide) (by decide) (by decide) (by decide) (by decide) (by decide), q5⟩, fun i hi => q6 i (by omega) (by omega) (by omega) (by omega) (by omega) (by omega)⟩
theorem lk_tell {s : az_S} {S : zR} {h c d : Nat} {G : Nat → zR} (H : zkS s S h c G) (hh : h ≤ 10000) (hd : 12 ≤ d) {w : Int} (hw : 0 ≤ w ∧ w < ((zn S 0 : Nat) : Int)) : az_R d am_m_X9_tell 0 (az_ini (am_mL am_m_X9_tell) [az_r 0, az_i w]) [] s (lkq s ((zline S w.toNat).length : Int)) := by
  obtain ⟨hR, hI, hJ, -⟩ := zkS_R H
  have hn := zn_le hI
  have e : zq_tell S w = (0, ((zline S w.toNat).length : Int)) := by unfold zq_tell; rw [if_neg (not_not_intro hw)]
  refine az_post (zs_X9_tell (by omega) hR hI hh (zb := w) ⟨by omega, by omega⟩ H.2.2.2) (fun o t q => ?_)
  rw [e] at q
  obtain ⟨q1, q2, -⟩ := q
  obtain ⟨-, q6, q4, q5⟩ := q2 rfl
  exact ⟨q1, ⟨q6 3 (by decide) (by decide), q6 17 (by decide) (by decide), q6 19 (by decide) (by decide), q6 21 (by decide) (by decide), q6 22 (by decide) (by decide), q6 0 (by decide) (by decide), q5⟩, fun i hi => q6 i (by omega) (by omega)⟩
theorem lk_sum0 {s : az_S} {S : zR} {h c d : Nat} {G : Nat → zR} (H : zkS s S h c G) (hh : h ≤ 10000) (hd : 12 ≤ d) : az_R d am_m_X9_sum 0 (az_ini (am_mL am_m_X9_sum) [az_r 0, az_i 0]) [] s (lkq s (ztl S False)) := by
  obtain ⟨hR, hI, hJ, -⟩ := zkS_R H
  exact lk_v (zs_X9_sum_0 (by omega) hR hI hh)
