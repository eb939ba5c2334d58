/-! THE LAW, 5: changes and questions with what is caught; written by program (wip/p47tools/l65.py) -/
set_option maxRecDepth 100000 in
theorem lw_bridge {L : Nat} {xs : Nat → Int32} {tx : Nat → Option String} (htx : ∀ i t, am_sx[i]? = some t → tx i = some t) {d : Nat} (hd : 14 ≤ d) {s : az_S} {S : zR} {h c : Nat} {G : Nat → zR} (H : zkS s S h c G) (hh : h ≤ 9000) {e : List Nat} {N M : Nat} (hN : 1 ≤ N) (hM : 6 ≤ M) {zo : Int} (h_zo : az_in zo) {zp : Int} (h_zp : az_in zp) {zq : Int} (h_zq : az_in zq) {zr : Int} (h_zr : az_in zr) : bz_R L xs tx d am_m_L_bridge 0 (az_ini (am_mL am_m_L_bridge) [az_r (0), az_i (zo), az_i (zp), az_i (zq), az_i (zr)]) [] e s N M (lwc e s S (zo_bridge S zo zp zq zr).2.2.2 h (h + 1)) := by
  obtain ⟨hR, hI, hJ, hM0⟩ := zkS_R H
  obtain ⟨p, hp8, hc8, hp, hc, hG⟩ := H.2.1
  have hh9 : h ≤ 10000 := by omega
  have hk : zok S (zo_bridge S zo zp zq zr) := zok_bridge hI hh9 _ _ _ _
  have hIv := zIv_bridge hI zo zp zq zr
  have hJv := zJ_bridge hI hJ zo zp zq zr
  have hMv := zM_bridge hI hM0 zo zp zq zr
  refine bz_to 0 (pc2 := 0) (lv2 := [some (az_r (0)), some (az_i (zo)), some (az_i (zp)), some (az_i (zq)), some (az_i (zr)), none]) (st2 := []) (s2 := s) (rfl) ?_
  refine bz_to 5 (pc2 := 6) (lv2 := [some (az_r (0)), some (az_i (zo)), some (az_i (zp)), some (az_i (zq)), some (az_i (zr)), none]) (st2 := [az_i (zr), az_i (zq), az_i (zp), az_i (zo), az_r (0)]) (s2 := s) (rfl) ?_
  refine bz_c htx 9 (m2 := am_m_X9_bridge) (as := [az_r (0), az_i (zo), az_i (zp), az_i (zq), az_i (zr)]) (rest := []) rfl rfl rfl (by omega) (zs_X9_bridge (by omega) hR hI hh9 (by omega) hp hp8 hc hc8 h_zo h_zp h_zq h_zr) (fun v t q => ?_) (fun E t q => ?_)
  · obtain ⟨r1, rfl⟩ := zout_l q.1
    exact bz_retI rfl rfl ⟨_, rfl, rfl, lch_of H hp8 hc8 hp hc hG q.2 hk hIv hJv hMv (Or.inl ⟨r1, rfl⟩)⟩
  · obtain ⟨r1, r2⟩ := zout_r q.1
    rcases r2 with ⟨k1, rfl⟩ | ⟨k1, rfl⟩ | ⟨k1, k2, rfl⟩
    · refine ⟨10, 12, [some (az_r (0)), some (az_i (zo)), some (az_i (zp)), some (az_i (zq)), some (az_i (zr)), none], N - 1, M - 6, by omega, by omega, rfl, rfl, ?_⟩
      refine bz_to 1 (pc2 := 14) (lv2 := [some (az_r (0)), some (az_i (zo)), some (az_i (zp)), some (az_i (zq)), some (az_i (zr)), none]) (st2 := [az_i (-900001)]) (s2 := t) (rfl) ?_
      exact bz_retI rfl rfl ⟨_, rfl, rfl, lch_of H hp8 hc8 hp hc hG q.2 hk hIv hJv hMv (Or.inr ⟨r1, by decide, by decide⟩)⟩
    · refine ⟨15, 17, [some (az_r (0)), some (az_i (zo)), some (az_i (zp)), some (az_i (zq)), some (az_i (zr)), none], N - 1, M - 6, by omega, by omega, rfl, rfl, ?_⟩
      refine bz_to 1 (pc2 := 19) (lv2 := [some (az_r (0)), some (az_i (zo)), some (az_i (zp)), some (az_i (zq)), some (az_i (zr)), none]) (st2 := [az_i (-900002)]) (s2 := t) (rfl) ?_
      exact bz_retI rfl rfl ⟨_, rfl, rfl, lch_of H hp8 hc8 hp hc hG q.2 hk hIv hJv hMv (Or.inr ⟨r1, by decide, by decide⟩)⟩
    · refine ⟨20, 22, [some (az_r (0)), some (az_i (zo)), some (az_i (zp)), some (az_i (zq)), some (az_i (zr)), none], N - 1, M - 6, by omega, by omega, rfl, rfl, ?_⟩
      refine bz_to 1 (pc2 := 24) (lv2 := [some (az_r (0)), some (az_i (zo)), some (az_i (zp)), some (az_i (zq)), some (az_i (zr)), none]) (st2 := [az_i (-900003)]) (s2 := t) (rfl) ?_
      exact bz_retI rfl rfl ⟨_, rfl, rfl, lch_of H hp8 hc8 hp hc hG q.2 hk hIv hJv hMv (Or.inr ⟨r1, by decide, by decide⟩)⟩
set_option maxRecDepth 100000 in
theorem lw_troll {L : Nat} {xs : Nat → Int32} {tx : Nat → Option String} (htx : ∀ i t, am_sx[i]? = some t → tx i = some t) {d : Nat} (hd : 14 ≤ d) {s : az_S} {S : zR} {h c : Nat} {G : Nat → zR} (H : zkS s S h c G) (hh : h ≤ 9000) {e : List Nat} {N M : Nat} (hN : 1 ≤ N) (hM : 6 ≤ M)  : bz_R L xs tx d am_m_L_troll 0 (az_ini (am_mL am_m_L_troll) [az_r (0)]) [] e s N M (lwc e s S (zo_troll S).2.2.2 h (h + 1)) := by
  obtain ⟨hR, hI, hJ, hM0⟩ := zkS_R H
  obtain ⟨p, hp8, hc8, hp, hc, hG⟩ := H.2.1
  have hh9 : h ≤ 10000 := by omega
  have hS1 : 0 ≤ S 1 := by have := zn_eq hI; omega
  have hk : zok S (zo_troll S) := zok_troll hI 
  have hIv := zIv_troll hI 
  have hJv := zJ_troll hI hJ 
  have hMv := zM_troll hI hM0  hS1
  refine bz_to 0 (pc2 := 0) (lv2 := [some (az_r (0)), none]) (st2 := []) (s2 := s) (rfl) ?_
  refine bz_to 1 (pc2 := 1) (lv2 := [some (az_r (0)), none]) (st2 := [az_r (0)]) (s2 := s) (rfl) ?_
  refine bz_c htx 4 (m2 := am_m_X9_troll) (as := [az_r (0)]) (rest := []) rfl rfl rfl (by omega) (zs_X9_troll (by omega) hR hI hh9 (by omega) hp hp8 hc hc8 ) (fun v t q => ?_) (fun E t q => ?_)
  · obtain ⟨r1, rfl⟩ := zout_l q.1
    exact bz_retI rfl rfl ⟨_, rfl, rfl, lch_of H hp8 hc8 hp hc hG q.2 hk hIv hJv hMv (Or.inl ⟨r1, rfl⟩)⟩
  · obtain ⟨r1, r2⟩ := zout_r q.1
    rcases r2 with ⟨k1, rfl⟩ | ⟨k1, rfl⟩ | ⟨k1, k2, rfl⟩
    · exfalso
      revert k1
      unfold zo_troll
      repeat' split
      all_goals (intro w; simp at w)
    · exfalso
      revert k1
      unfold zo_troll
      repeat' split
      all_goals (intro w; simp at w)
    · refine ⟨5, 6, [some (az_r (0)), none], N - 1, M - 6, by omega, by omega, rfl, rfl, ?_⟩
      refine bz_to 1 (pc2 := 8) (lv2 := [some (az_r (0)), none]) (st2 := [az_i (-900001)]) (s2 := t) (rfl) ?_
      exact bz_retI rfl rfl ⟨_, rfl, rfl, lch_of H hp8 hc8 hp hc hG q.2 hk hIv hJv hMv (Or.inr ⟨r1, by decide, by decide⟩)⟩
set_option maxRecDepth 100000 in
theorem lw_goat {L : Nat} {xs : Nat → Int32} {tx : Nat → Option String} (htx : ∀ i t, am_sx[i]? = some t → tx i = some t) {d : Nat} (hd : 14 ≤ d) {s : az_S} {S : zR} {h c : Nat} {G : Nat → zR} (H : zkS s S h c G) (hh : h ≤ 9000) {e : List Nat} {N M : Nat} (hN : 1 ≤ N) (hM : 6 ≤ M) {zl : Int} (h_zl : az_in zl) {zc : Int} (h_zc : az_in zc) : bz_R L xs tx d am_m_L_goat 0 (az_ini (am_mL am_m_L_goat) [az_r (0), az_i (zl), az_i (zc)]) [] e s N M (lwc e s S (zo_goat S zl zc).2.2.2 h (h + 1)) := by
  obtain ⟨hR, hI, hJ, hM0⟩ := zkS_R H
  obtain ⟨p, hp8, hc8, hp, hc, hG⟩ := H.2.1
  have hh9 : h ≤ 10000 := by omega
  have hk : zok S (zo_goat S zl zc) := zok_goat hI _ _
  have hIv := zIv_goat hI zl zc
  have hJv := zJ_goat hI hJ zl zc
  have hMv := zM_goat hI hM0 zl zc
  refine bz_to 0 (pc2 := 0) (lv2 := [some (az_r (0)), some (az_i (zl)), some (az_i (zc)), none]) (st2 := []) (s2 := s) (rfl) ?_
  refine bz_to 3 (pc2 := 3) (lv2 := [some (az_r (0)), some (az_i (zl)), some (az_i (zc)), none]) (st2 := [az_i (zc), az_i (zl), az_r (0)]) (s2 := s) (rfl) ?_
  refine bz_c htx 6 (m2 := am_m_X9_goat) (as := [az_r (0), az_i (zl), az_i (zc)]) (rest := []) rfl rfl rfl (by omega) (zs_X9_goat (by omega) hR hI hh9 (by omega) hp hp8 hc hc8 h_zl h_zc) (fun v t q => ?_) (fun E t q => ?_)
  · obtain ⟨r1, rfl⟩ := zout_l q.1
    exact bz_retI rfl rfl ⟨_, rfl, rfl, lch_of H hp8 hc8 hp hc hG q.2 hk hIv hJv hMv (Or.inl ⟨r1, rfl⟩)⟩
  · obtain ⟨r1, r2⟩ := zout_r q.1
    rcases r2 with ⟨k1, rfl⟩ | ⟨k1, rfl⟩ | ⟨k1, k2, rfl⟩
    · refine ⟨7, 8, [some (az_r (0)), some (az_i (zl)), some (az_i (zc)), none], N - 1, M - 6, by omega, by omega, rfl, rfl, ?_⟩
      refine bz_to 1 (pc2 := 10) (lv2 := [some (az_r (0)), some (az_i (zl)), some (az_i (zc)), none]) (st2 := [az_i (-900001)]) (s2 := t) (rfl) ?_
      exact bz_retI rfl rfl ⟨_, rfl, rfl, lch_of H hp8 hc8 hp hc hG q.2 hk hIv hJv hMv (Or.inr ⟨r1, by decide, by decide⟩)⟩
    · refine ⟨11, 12, [some (az_r (0)), some (az_i (zl)), some (az_i (zc)), none], N - 1, M - 6, by omega, by omega, rfl, rfl, ?_⟩
      refine bz_to 1 (pc2 := 14) (lv2 := [some (az_r (0)), some (az_i (zl)), some (az_i (zc)), none]) (st2 := [az_i (-900002)]) (s2 := t) (rfl) ?_
      exact bz_retI rfl rfl ⟨_, rfl, rfl, lch_of H hp8 hc8 hp hc hG q.2 hk hIv hJv hMv (Or.inr ⟨r1, by decide, by decide⟩)⟩
    · refine ⟨15, 16, [some (az_r (0)), some (az_i (zl)), some (az_i (zc)), none], N - 1, M - 6, by omega, by omega, rfl, rfl, ?_⟩
      refine bz_to 1 (pc2 := 18) (lv2 := [some (az_r (0)), some (az_i (zl)), some (az_i (zc)), none]) (st2 := [az_i (-900003)]) (s2 := t) (rfl) ?_
      exact bz_retI rfl rfl ⟨_, rfl, rfl, lch_of H hp8 hc8 hp hc hG q.2 hk hIv hJv hMv (Or.inr ⟨r1, by decide, by decide⟩)⟩
set_option maxRecDepth 100000 in
theorem lw_post {L : Nat} {xs : Nat → Int32} {tx : Nat → Option String} (htx : ∀ i t, am_sx[i]? = some t → tx i = some t) {d : Nat} (hd : 14 ≤ d) {s : az_S} {S : zR} {h c : Nat} {G : Nat → zR} (H : zkS s S h c G) (hh : h ≤ 9000) {e : List Nat} {N M : Nat} (hN : 1 ≤ N) (hM : 6 ≤ M) {zt : Int} (h_zt : az_in zt) {zb : Int} (h_zb : az_in zb) : bz_R L xs tx d am_m_L_post 0 (az_ini (am_mL am_m_L_post) [az_r (0), az_i (zt), az_i (zb)]) [] e s N M (lwc e s S (zo_post S zt zb).2.2.2 h (h + 1)) := by
  obtain ⟨hR, hI, hJ, hM0⟩ := zkS_R H
  obtain ⟨p, hp8, hc8, hp, hc, hG⟩ := H.2.1
  have hh9 : h ≤ 10000 := by omega
  have hk : zok S (zo_post S zt zb) := zok_post hI hh9 _ _
  have hIv := zIv_post hI zt zb
  have hJv := zJ_post hI hJ zt zb
  have hMv := zM_post hI hM0 zt zb
  refine bz_to 0 (pc2 := 0) (lv2 := [some (az_r (0)), some (az_i (zt)), some (az_i (zb)), none]) (st2 := []) (s2 := s) (rfl) ?_
  refine bz_to 3 (pc2 := 3) (lv2 := [some (az_r (0)), some (az_i (zt)), some (az_i (zb)), none]) (st2 := [az_i (zb), az_i (zt), az_r (0)]) (s2 := s) (rfl) ?_
  refine bz_c htx 6 (m2 := am_m_X9_post) (as := [az_r (0), az_i (zt), az_i (zb)]) (rest := []) rfl rfl rfl (by omega) (zs_X9_post (by omega) hR hI hh9 (by omega) hp hp8 hc hc8 h_zt h_zb) (fun v t q => ?_) (fun E t q => ?_)
  · obtain ⟨r1, rfl⟩ := zout_l q.1
    exact bz_retI rfl rfl ⟨_, rfl, rfl, lch_of H hp8 hc8 hp hc hG q.2 hk hIv hJv hMv (Or.inl ⟨r1, rfl⟩)⟩
  · obtain ⟨r1, r2⟩ := zout_r q.1
    rcases r2 with ⟨k1, rfl⟩ | ⟨k1, rfl⟩ | ⟨k1, k2, rfl⟩
    · refine ⟨7, 8, [some (az_r (0)), some (az_i (zt)), some (az_i (zb)), none], N - 1, M - 6, by omega, by omega, rfl, rfl, ?_⟩
      refine bz_to 1 (pc2 := 10) (lv2 := [some (az_r (0)), some (az_i (zt)), some (az_i (zb)), none]) (st2 := [az_i (-900001)]) (s2 := t) (rfl) ?_
      exact bz_retI rfl rfl ⟨_, rfl, rfl, lch_of H hp8 hc8 hp hc hG q.2 hk hIv hJv hMv (Or.inr ⟨r1, by decide, by decide⟩)⟩
    · exfalso
      revert k1
      unfold zo_post
      repeat' split
      all_goals (intro w; simp at w)
    · refine ⟨11, 12, [some (az_r (0)), some (az_i (zt)), some (az_i (zb)), none], N - 1, M - 6, by omega, by omega, rfl, rfl, ?_⟩
      refine bz_to 1 (pc2 := 14) (lv2 := [some (az_r (0)), some (az_i (zt)), some (az_i (zb)), none]) (st2 := [az_i (-900002)]) (s2 := t) (rfl) ?_
      exact bz_retI rfl rfl ⟨_, rfl, rfl, lch_of H hp8 hc8 hp hc hG q.2 hk hIv hJv hMv (Or.inr ⟨r1, by decide, by decide⟩)⟩
set_option maxRecDepth 100000 in
theorem lw_leave {L : Nat} {xs : Nat → Int32} {tx : Nat → Option String} (htx : ∀ i t, am_sx[i]? = some t → tx i = some t) {d : Nat} (hd : 14 ≤ d) {s : az_S} {S : zR} {h c : Nat} {G : Nat → zR} (H : zkS s S h c G) (hh : h ≤ 9000) {e : List Nat} {N M : Nat} (hN : 1 ≤ N) (hM : 6 ≤ M) {zt : Int} (h_zt : az_in zt) : bz_R L xs tx d am_m_L_leave 0 (az_ini (am_mL am_m_L_leave) [az_r (0), az_i (zt)]) [] e s N M (lwc e s S (zo_leave S zt).2.2.2 h (h + 1)) := by
  obtain ⟨hR, hI, hJ, hM0⟩ := zkS_R H
  obtain ⟨p, hp8, hc8, hp, hc, hG⟩ := H.2.1
  have hh9 : h ≤ 10000 := by omega
  have hk : zok S (zo_leave S zt) := zok_leave hI hh9 _
  have hIv := zIv_leave hI zt
  have hJv := zJ_leave hI hJ zt
  have hMv := zM_leave hI hM0 zt
  refine bz_to 0 (pc2 := 0) (lv2 := [some (az_r (0)), some (az_i (zt)), none]) (st2 := []) (s2 := s) (rfl) ?_
  refine bz_to 2 (pc2 := 2) (lv2 := [some (az_r (0)), some (az_i (zt)), none]) (st2 := [az_i (zt), az_r (0)]) (s2 := s) (rfl) ?_
  refine bz_c htx 5 (m2 := am_m_X9_leave) (as := [az_r (0), az_i (zt)]) (rest := []) rfl rfl rfl (by omega) (zs_X9_leave (by omega) hR hI hh9 (by omega) hp hp8 hc hc8 h_zt) (fun v t q => ?_) (fun E t q => ?_)
  · obtain ⟨r1, rfl⟩ := zout_l q.1
    exact bz_retI rfl rfl ⟨_, rfl, rfl, lch_of H hp8 hc8 hp hc hG q.2 hk hIv hJv hMv (Or.inl ⟨r1, rfl⟩)⟩
  · obtain ⟨r1, r2⟩ := zout_r q.1
    rcases r2 with ⟨k1, rfl⟩ | ⟨k1, rfl⟩ | ⟨k1, k2, rfl⟩
    · refine ⟨6, 7, [some (az_r (0)), some (az_i (zt)), none], N - 1, M - 6, by omega, by omega, rfl, rfl, ?_⟩
      refine bz_to 1 (pc2 := 9) (lv2 := [some (az_r (0)), some (az_i (zt)), none]) (st2 := [az_i (-900001)]) (s2 := t) (rfl) ?_
      exact bz_retI rfl rfl ⟨_, rfl, rfl, lch_of H hp8 hc8 hp hc hG q.2 hk hIv hJv hMv (Or.inr ⟨r1, by decide, by decide⟩)⟩
    · exfalso
      revert k1
      unfold zo_leave
      repeat' split
      all_goals (intro w; simp at w)
    · refine ⟨10, 11, [some (az_r (0)), some (az_i (zt)), none], N - 1, M - 6, by omega, by omega, rfl, rfl, ?_⟩
      refine bz_to 1 (pc2 := 13) (lv2 := [some (az_r (0)), some (az_i (zt)), none]) (st2 := [az_i (-900002)]) (s2 := t) (rfl) ?_
      exact bz_retI rfl rfl ⟨_, rfl, rfl, lch_of H hp8 hc8 hp hc hG q.2 hk hIv hJv hMv (Or.inr ⟨r1, by decide, by decide⟩)⟩
set_option maxRecDepth 100000 in
theorem lw_riddle {L : Nat} {xs : Nat → Int32} {tx : Nat → Option String} (htx : ∀ i t, am_sx[i]? = some t → tx i = some t) {d : Nat} (hd : 14 ≤ d) {s : az_S} {S : zR} {h c : Nat} {G : Nat → zR} (H : zkS s S h c G) (hh : h ≤ 9000) {e : List Nat} {N M : Nat} (hN : 1 ≤ N) (hM : 6 ≤ M) {zt : Int} (h_zt : az_in zt) {zd : Int} (h_zd : az_in zd) {zn0 : Int} (h_zn0 : az_in zn0) : bz_R L xs tx d am_m_L_riddle 0 (az_ini (am_mL am_m_L_riddle) [az_r (0), az_i (zt), az_i (zd), az_i (zn0)]) [] e s N M (lwc e s S (zo_riddle S zt zd zn0).2.2.2 h (h + 1)) := by
  obtain ⟨hR, hI, hJ, hM0⟩ := zkS_R H
  obtain ⟨p, hp8, hc8, hp, hc, hG⟩ := H.2.1
  have hh9 : h ≤ 10000 := by omega
  have hk : zok S (zo_riddle S zt zd zn0) := zok_riddle hI hh9 _ _ _
  have hIv := zIv_riddle hI zt zd zn0
  have hJv := zJ_riddle hI hJ zt zd zn0
  have hMv := zM_riddle hI hM0 zt zd zn0
  refine bz_to 0 (pc2 := 0) (lv2 := [some (az_r (0)), some (az_i (zt)), some (az_i (zd)), some (az_i (zn0)), none]) (st2 := []) (s2 := s) (rfl) ?_
  refine bz_to 4 (pc2 := 4) (lv2 := [some (az_r (0)), some (az_i (zt)), some (az_i (zd)), some (az_i (zn0)), none]) (st2 := [az_i (zn0), az_i (zd), az_i (zt), az_r (0)]) (s2 := s) (rfl) ?_
  refine bz_c htx 7 (m2 := am_m_X9_riddle) (as := [az_r (0), az_i (zt), az_i (zd), az_i (zn0)]) (rest := []) rfl rfl rfl (by omega) (zs_X9_riddle (by omega) hR hI hh9 (by omega) hp hp8 hc hc8 h_zt h_zd h_zn0) (fun v t q => ?_) (fun E t q => ?_)
  · obtain ⟨r1, rfl⟩ := zout_l q.1
    exact bz_retI rfl rfl ⟨_, rfl, rfl, lch_of H hp8 hc8 hp hc hG q.2 hk hIv hJv hMv (Or.inl ⟨r1, rfl⟩)⟩
  · obtain ⟨r1, r2⟩ := zout_r q.1
    rcases r2 with ⟨k1, rfl⟩ | ⟨k1, rfl⟩ | ⟨k1, k2, rfl⟩
    · refine ⟨8, 10, [some (az_r (0)), some (az_i (zt)), some (az_i (zd)), some (az_i (zn0)), none], N - 1, M - 6, by omega, by omega, rfl, rfl, ?_⟩
      refine bz_to 1 (pc2 := 12) (lv2 := [some (az_r (0)), some (az_i (zt)), some (az_i (zd)), some (az_i (zn0)), none]) (st2 := [az_i (-900001)]) (s2 := t) (rfl) ?_
      exact bz_retI rfl rfl ⟨_, rfl, rfl, lch_of H hp8 hc8 hp hc hG q.2 hk hIv hJv hMv (Or.inr ⟨r1, by decide, by decide⟩)⟩
    · refine ⟨13, 15, [some (az_r (0)), some (az_i (zt)), some (az_i (zd)), some (az_i (zn0)), none], N - 1, M - 6, by omega, by omega, rfl, rfl, ?_⟩
      refine bz_to 1 (pc2 := 17) (lv2 := [some (az_r (0)), some (az_i (zt)), some (az_i (zd)), some (az_i (zn0)), none]) (st2 := [az_i (-900002)]) (s2 := t) (rfl) ?_
      exact bz_retI rfl rfl ⟨_, rfl, rfl, lch_of H hp8 hc8 hp hc hG q.2 hk hIv hJv hMv (Or.inr ⟨r1, by decide, by decide⟩)⟩
    · refine ⟨18, 20, [some (az_r (0)), some (az_i (zt)), some (az_i (zd)), some (az_i (zn0)), none], N - 1, M - 6, by omega, by omega, rfl, rfl, ?_⟩
      refine bz_to 1 (pc2 := 22) (lv2 := [some (az_r (0)), some (az_i (zt)), some (az_i (zd)), some (az_i (zn0)), none]) (st2 := [az_i (-900003)]) (s2 := t) (rfl) ?_
      exact bz_retI rfl rfl ⟨_, rfl, rfl, lch_of H hp8 hc8 hp hc hG q.2 hk hIv hJv hMv (Or.inr ⟨r1, by decide, by decide⟩)⟩
set_option maxRecDepth 100000 in
theorem lw_fog {L : Nat} {xs : Nat → Int32} {tx : Nat → Option String} (htx : ∀ i t, am_sx[i]? = some t → tx i = some t) {d : Nat} (hd : 14 ≤ d) {s : az_S} {S : zR} {h c : Nat} {G : Nat → zR} (H : zkS s S h c G) (hh : h ≤ 9000) {e : List Nat} {N M : Nat} (hN : 1 ≤ N) (hM : 6 ≤ M) {zb : Int} (h_zb : az_in zb) {zn0 : Int} (h_zn0 : az_in zn0) : bz_R L xs tx d am_m_L_fog 0 (az_ini (am_mL am_m_L_fog) [az_r (0), az_i (zb), az_i (zn0)]) [] e s N M (lwc e s S (zo_fog S zb zn0).2.2.2 h (h + 1)) := by
  obtain ⟨hR, hI, hJ, hM0⟩ := zkS_R H
  obtain ⟨p, hp8, hc8, hp, hc, hG⟩ := H.2.1
  have hh9 : h ≤ 10000 := by omega
  have hk : zok S (zo_fog S zb zn0) := zok_fog hI hh9 _ _
  have hIv := zIv_fog hI zb zn0
  have hJv := zJ_fog hI hJ zb zn0
  have hMv := zM_fog hI hM0 zb zn0
  refine bz_to 0 (pc2 := 0) (lv2 := [some (az_r (0)), some (az_i (zb)), some (az_i (zn0)), none]) (st2 := []) (s2 := s) (rfl) ?_
  refine bz_to 3 (pc2 := 3) (lv2 := [some (az_r (0)), some (az_i (zb)), some (az_i (zn0)), none]) (st2 := [az_i (zn0), az_i (zb), az_r (0)]) (s2 := s) (rfl) ?_
  refine bz_c htx 6 (m2 := am_m_X9_fog) (as := [az_r (0), az_i (zb), az_i (zn0)]) (rest := []) rfl rfl rfl (by omega) (zs_X9_fog (by omega) hR hI hh9 (by omega) hp hp8 hc hc8 h_zb h_zn0) (fun v t q => ?_) (fun E t q => ?_)
  · obtain ⟨r1, rfl⟩ := zout_l q.1
    exact bz_retI rfl rfl ⟨_, rfl, rfl, lch_of H hp8 hc8 hp hc hG q.2 hk hIv hJv hMv (Or.inl ⟨r1, rfl⟩)⟩
  · obtain ⟨r1, r2⟩ := zout_r q.1
    rcases r2 with ⟨k1, rfl⟩ | ⟨k1, rfl⟩ | ⟨k1, k2, rfl⟩
    · refine ⟨7, 8, [some (az_r (0)), some (az_i (zb)), some (az_i (zn0)), none], N - 1, M - 6, by omega, by omega, rfl, rfl, ?_⟩
      refine bz_to 1 (pc2 := 10) (lv2 := [some (az_r (0)), some (az_i (zb)), some (az_i (zn0)), none]) (st2 := [az_i (-900001)]) (s2 := t) (rfl) ?_
      exact bz_retI rfl rfl ⟨_, rfl, rfl, lch_of H hp8 hc8 hp hc hG q.2 hk hIv hJv hMv (Or.inr ⟨r1, by decide, by decide⟩)⟩
    · refine ⟨11, 12, [some (az_r (0)), some (az_i (zb)), some (az_i (zn0)), none], N - 1, M - 6, by omega, by omega, rfl, rfl, ?_⟩
      refine bz_to 1 (pc2 := 14) (lv2 := [some (az_r (0)), some (az_i (zb)), some (az_i (zn0)), none]) (st2 := [az_i (-900002)]) (s2 := t) (rfl) ?_
      exact bz_retI rfl rfl ⟨_, rfl, rfl, lch_of H hp8 hc8 hp hc hG q.2 hk hIv hJv hMv (Or.inr ⟨r1, by decide, by decide⟩)⟩
    · refine ⟨15, 16, [some (az_r (0)), some (az_i (zb)), some (az_i (zn0)), none], N - 1, M - 6, by omega, by omega, rfl, rfl, ?_⟩
      refine bz_to 1 (pc2 := 18) (lv2 := [some (az_r (0)), some (az_i (zb)), some (az_i (zn0)), none]) (st2 := [az_i (-900003)]) (s2 := t) (rfl) ?_
      exact bz_retI rfl rfl ⟨_, rfl, rfl, lch_of H hp8 hc8 hp hc hG q.2 hk hIv hJv hMv (Or.inr ⟨r1, by decide, by decide⟩)⟩
set_option maxRecDepth 100000 in
theorem lw_price {L : Nat} {xs : Nat → Int32} {tx : Nat → Option String} (htx : ∀ i t, am_sx[i]? = some t → tx i = some t) {d : Nat} (hd : 14 ≤ d) {s : az_S} {S : zR} {h c : Nat} {G : Nat → zR} (H : zkS s S h c G) (hh : h ≤ 9000) {e : List Nat} {N M : Nat} (hN : 1 ≤ N) (hM : 6 ≤ M) {zb : Int} (h_zb : az_in zb) {zr : Int} (h_zr : az_in zr) : bz_R L xs tx d am_m_L_price 0 (az_ini (am_mL am_m_L_price) [az_r (0), az_i (zb), az_i (zr)]) [] e s N M (lwc e s S (zo_price S zb zr).2.2.2 h (h + 1)) := by
  obtain ⟨hR, hI, hJ, hM0⟩ := zkS_R H
  obtain ⟨p, hp8, hc8, hp, hc, hG⟩ := H.2.1
  have hh9 : h ≤ 10000 := by omega
  have hk : zok S (zo_price S zb zr) := zok_price hI hh9 _ _
  have hIv := zIv_price hI zb zr
  have hJv := zJ_price hI hJ zb zr
  have hMv := zM_price hI hM0 zb zr
  refine bz_to 0 (pc2 := 0) (lv2 := [some (az_r (0)), some (az_i (zb)), some (az_i (zr)), none]) (st2 := []) (s2 := s) (rfl) ?_
  refine bz_to 3 (pc2 := 3) (lv2 := [some (az_r (0)), some (az_i (zb)), some (az_i (zr)), none]) (st2 := [az_i (zr), az_i (zb), az_r (0)]) (s2 := s) (rfl) ?_
  refine bz_c htx 6 (m2 := am_m_X9_price) (as := [az_r (0), az_i (zb), az_i (zr)]) (rest := []) rfl rfl rfl (by omega) (zs_X9_price (by omega) hR hI hh9 (by omega) hp hp8 hc hc8 h_zb h_zr) (fun v t q => ?_) (fun E t q => ?_)
  · obtain ⟨r1, rfl⟩ := zout_l q.1
    exact bz_retI rfl rfl ⟨_, rfl, rfl, lch_of H hp8 hc8 hp hc hG q.2 hk hIv hJv hMv (Or.inl ⟨r1, rfl⟩)⟩
  · obtain ⟨r1, r2⟩ := zout_r q.1
    rcases r2 with ⟨k1, rfl⟩ | ⟨k1, rfl⟩ | ⟨k1, k2, rfl⟩
    · refine ⟨7, 8, [some (az_r (0)), some (az_i (zb)), some (az_i (zr)), none], N - 1, M - 6, by omega, by omega, rfl, rfl, ?_⟩
      refine bz_to 1 (pc2 := 10) (lv2 := [some (az_r (0)), some (az_i (zb)), some (az_i (zr)), none]) (st2 := [az_i (-900001)]) (s2 := t) (rfl) ?_
      exact bz_retI rfl rfl ⟨_, rfl, rfl, lch_of H hp8 hc8 hp hc hG q.2 hk hIv hJv hMv (Or.inr ⟨r1, by decide, by decide⟩)⟩
    · refine ⟨11, 12, [some (az_r (0)), some (az_i (zb)), some (az_i (zr)), none], N - 1, M - 6, by omega, by omega, rfl, rfl, ?_⟩
      refine bz_to 1 (pc2 := 14) (lv2 := [some (az_r (0)), some (az_i (zb)), some (az_i (zr)), none]) (st2 := [az_i (-900002)]) (s2 := t) (rfl) ?_
      exact bz_retI rfl rfl ⟨_, rfl, rfl, lch_of H hp8 hc8 hp hc hG q.2 hk hIv hJv hMv (Or.inr ⟨r1, by decide, by decide⟩)⟩
    · refine ⟨15, 16, [some (az_r (0)), some (az_i (zb)), some (az_i (zr)), none], N - 1, M - 6, by omega, by omega, rfl, rfl, ?_⟩
      refine bz_to 1 (pc2 := 18) (lv2 := [some (az_r (0)), some (az_i (zb)), some (az_i (zr)), none]) (st2 := [az_i (-900003)]) (s2 := t) (rfl) ?_
      exact bz_retI rfl rfl ⟨_, rfl, rfl, lch_of H hp8 hc8 hp hc hG q.2 hk hIv hJv hMv (Or.inr ⟨r1, by decide, by decide⟩)⟩
set_option maxRecDepth 100000 in
theorem lw_cross {L : Nat} {xs : Nat → Int32} {tx : Nat → Option String} (htx : ∀ i t, am_sx[i]? = some t → tx i = some t) {d : Nat} (hd : 14 ≤ d) {s : az_S} {S : zR} {h c : Nat} {G : Nat → zR} (H : zkS s S h c G) (hh : h ≤ 9000) {e : List Nat} {N M : Nat} (hN : 1 ≤ N) (hM : 6 ≤ M) {zg : Int} (h_zg : az_in zg) {zb : Int} (h_zb : az_in zb) : bz_R L xs tx d am_m_L_cross 0 (az_ini (am_mL am_m_L_cross) [az_r (0), az_i (zg), az_i (zb)]) [] e s N M (lwc e s S (zo_cross S zg zb).2.2.2 h (h + 1)) := by
  obtain ⟨hR, hI, hJ, hM0⟩ := zkS_R H
  obtain ⟨p, hp8, hc8, hp, hc, hG⟩ := H.2.1
  have hh9 : h ≤ 10000 := by omega
  have hk : zok S (zo_cross S zg zb) := zok_cross hI hh9 _ _
  have hIv := zIv_cross hI hh9 zg zb
  have hJv := zJ_cross hI hJ zg zb
  have hMv := zM_cross hI hM0 zg zb
  refine bz_to 0 (pc2 := 0) (lv2 := [some (az_r (0)), some (az_i (zg)), some (az_i (zb)), none]) (st2 := []) (s2 := s) (rfl) ?_
  refine bz_to 3 (pc2 := 3) (lv2 := [some (az_r (0)), some (az_i (zg)), some (az_i (zb)), none]) (st2 := [az_i (zb), az_i (zg), az_r (0)]) (s2 := s) (rfl) ?_
  refine bz_c htx 6 (m2 := am_m_X9_cross) (as := [az_r (0), az_i (zg), az_i (zb)]) (rest := []) rfl rfl rfl (by omega) (zs_X9_cross (by omega) hR hI hh9 (by omega) hp hp8 hc hc8 h_zg h_zb) (fun v t q => ?_) (fun E t q => ?_)
  · obtain ⟨r1, rfl⟩ := zout_l q.1
    exact bz_retI rfl rfl ⟨_, rfl, rfl, lch_of H hp8 hc8 hp hc hG q.2 hk hIv hJv hMv (Or.inl ⟨r1, rfl⟩)⟩
  · obtain ⟨r1, r2⟩ := zout_r q.1
    rcases r2 with ⟨k1, rfl⟩ | ⟨k1, rfl⟩ | ⟨k1, k2, rfl⟩
    · refine ⟨7, 8, [some (az_r (0)), some (az_i (zg)), some (az_i (zb)), none], N - 1, M - 6, by omega, by omega, rfl, rfl, ?_⟩
      refine bz_to 1 (pc2 := 10) (lv2 := [some (az_r (0)), some (az_i (zg)), some (az_i (zb)), none]) (st2 := [az_i (-900001)]) (s2 := t) (rfl) ?_
      exact bz_retI rfl rfl ⟨_, rfl, rfl, lch_of H hp8 hc8 hp hc hG q.2 hk hIv hJv hMv (Or.inr ⟨r1, by decide, by decide⟩)⟩
    · exfalso
      revert k1
      unfold zo_cross
      repeat' split
      all_goals (intro w; simp at w)
    · refine ⟨11, 12, [some (az_r (0)), some (az_i (zg)), some (az_i (zb)), none], N - 1, M - 6, by omega, by omega, rfl, rfl, ?_⟩
      refine bz_to 1 (pc2 := 14) (lv2 := [some (az_r (0)), some (az_i (zg)), some (az_i (zb)), none]) (st2 := [az_i (-900002)]) (s2 := t) (rfl) ?_
      exact bz_retI rfl rfl ⟨_, rfl, rfl, lch_of H hp8 hc8 hp hc hG q.2 hk hIv hJv hMv (Or.inr ⟨r1, by decide, by decide⟩)⟩
set_option maxRecDepth 100000 in
theorem lw_dispute {L : Nat} {xs : Nat → Int32} {tx : Nat → Option String} (htx : ∀ i t, am_sx[i]? = some t → tx i = some t) {d : Nat} (hd : 14 ≤ d) {s : az_S} {S : zR} {h c : Nat} {G : Nat → zR} (H : zkS s S h c G) (hh : h ≤ 9000) {e : List Nat} {N M : Nat} (hN : 1 ≤ N) (hM : 6 ≤ M) {zg : Int} (h_zg : az_in zg) {zb : Int} (h_zb : az_in zb) : bz_R L xs tx d am_m_L_dispute 0 (az_ini (am_mL am_m_L_dispute) [az_r (0), az_i (zg), az_i (zb)]) [] e s N M (lwc e s S (zo_dispute S zg zb).2.2.2 h (h + 1)) := by
  obtain ⟨hR, hI, hJ, hM0⟩ := zkS_R H
  obtain ⟨p, hp8, hc8, hp, hc, hG⟩ := H.2.1
  have hh9 : h ≤ 10000 := by omega
  have hk : zok S (zo_dispute S zg zb) := zok_dispute hI _ _
  have hIv := zIv_dispute hI zg zb
  have hJv := zJ_dispute hI hJ zg zb
  have hMv := zM_dispute hI hM0 zg zb
  refine bz_to 0 (pc2 := 0) (lv2 := [some (az_r (0)), some (az_i (zg)), some (az_i (zb)), none]) (st2 := []) (s2 := s) (rfl) ?_
  refine bz_to 3 (pc2 := 3) (lv2 := [some (az_r (0)), some (az_i (zg)), some (az_i (zb)), none]) (st2 := [az_i (zb), az_i (zg), az_r (0)]) (s2 := s) (rfl) ?_
  refine bz_c htx 6 (m2 := am_m_X9_dispute) (as := [az_r (0), az_i (zg), az_i (zb)]) (rest := []) rfl rfl rfl (by omega) (zs_X9_dispute (by omega) hR hI hh9 (by omega) hp hp8 hc hc8 h_zg h_zb) (fun v t q => ?_) (fun E t q => ?_)
  · obtain ⟨r1, rfl⟩ := zout_l q.1
    exact bz_retI rfl rfl ⟨_, rfl, rfl, lch_of H hp8 hc8 hp hc hG q.2 hk hIv hJv hMv (Or.inl ⟨r1, rfl⟩)⟩
  · obtain ⟨r1, r2⟩ := zout_r q.1
    rcases r2 with ⟨k1, rfl⟩ | ⟨k1, rfl⟩ | ⟨k1, k2, rfl⟩
    · refine ⟨7, 8, [some (az_r (0)), some (az_i (zg)), some (az_i (zb)), none], N - 1, M - 6, by omega, by omega, rfl, rfl, ?_⟩
      refine bz_to 1 (pc2 := 10) (lv2 := [some (az_r (0)), some (az_i (zg)), some (az_i (zb)), none]) (st2 := [az_i (-900001)]) (s2 := t) (rfl) ?_
      exact bz_retI rfl rfl ⟨_, rfl, rfl, lch_of H hp8 hc8 hp hc hG q.2 hk hIv hJv hMv (Or.inr ⟨r1, by decide, by decide⟩)⟩
    · exfalso
      revert k1
      unfold zo_dispute
      repeat' split
      all_goals (intro w; simp at w)
    · refine ⟨11, 12, [some (az_r (0)), some (az_i (zg)), some (az_i (zb)), none], N - 1, M - 6, by omega, by omega, rfl, rfl, ?_⟩
      refine bz_to 1 (pc2 := 14) (lv2 := [some (az_r (0)), some (az_i (zg)), some (az_i (zb)), none]) (st2 := [az_i (-900002)]) (s2 := t) (rfl) ?_
      exact bz_retI rfl rfl ⟨_, rfl, rfl, lch_of H hp8 hc8 hp hc hG q.2 hk hIv hJv hMv (Or.inr ⟨r1, by decide, by decide⟩)⟩
set_option maxRecDepth 100000 in
theorem lw_settle1 {L : Nat} {xs : Nat → Int32} {tx : Nat → Option String} (htx : ∀ i t, am_sx[i]? = some t → tx i = some t) {d : Nat} (hd : 14 ≤ d) {s : az_S} {S : zR} {h c : Nat} {G : Nat → zR} (H : zkS s S h c G) (hh : h ≤ 9000) {e : List Nat} {N M : Nat} (hN : 1 ≤ N) (hM : 6 ≤ M) {zb : Int} (h_zb : az_in zb) : bz_R L xs tx d am_m_L_settle 0 (az_ini (am_mL am_m_L_settle) [az_r (0), az_i (zb), az_i (1)]) [] e s N M (lwc e s S (zo_settle S zb 1).2.2.2 h (h + 1)) := by
  obtain ⟨hR, hI, hJ, hM0⟩ := zkS_R H
  obtain ⟨p, hp8, hc8, hp, hc, hG⟩ := H.2.1
  have hh9 : h ≤ 10000 := by omega
  have hk : zok S (zo_settle S zb 1) := zok_settle hI hh9 _ _
  have hIv := zIv_settle hI hh9 zb 1
  have hJv := zJ_settle hI hJ zb 1
  have hMv := zM_settle hI hM0 zb 1
  refine bz_to 0 (pc2 := 0) (lv2 := [some (az_r (0)), some (az_i (zb)), some (az_i (1)), none]) (st2 := []) (s2 := s) (rfl) ?_
  refine bz_to 3 (pc2 := 3) (lv2 := [some (az_r (0)), some (az_i (zb)), some (az_i (1)), none]) (st2 := [az_i (1), az_i (zb), az_r (0)]) (s2 := s) (rfl) ?_
  refine bz_c htx 6 (m2 := am_m_X9_settle) (as := [az_r (0), az_i (zb), az_i (1)]) (rest := []) rfl rfl rfl (by omega) (zs_X9_settle_1 (by omega) hR hI hh9 (by omega) hp hp8 hc hc8 h_zb) (fun v t q => ?_) (fun E t q => ?_)
  · obtain ⟨r1, rfl⟩ := zout_l q.1
    exact bz_retI rfl rfl ⟨_, rfl, rfl, lch_of H hp8 hc8 hp hc hG q.2 hk hIv hJv hMv (Or.inl ⟨r1, rfl⟩)⟩
  · obtain ⟨r1, r2⟩ := zout_r q.1
    rcases r2 with ⟨k1, rfl⟩ | ⟨k1, rfl⟩ | ⟨k1, k2, rfl⟩
    · refine ⟨7, 8, [some (az_r (0)), some (az_i (zb)), some (az_i (1)), none], N - 1, M - 6, by omega, by omega, rfl, rfl, ?_⟩
      refine bz_to 1 (pc2 := 10) (lv2 := [some (az_r (0)), some (az_i (zb)), some (az_i (1)), none]) (st2 := [az_i (-900001)]) (s2 := t) (rfl) ?_
      exact bz_retI rfl rfl ⟨_, rfl, rfl, lch_of H hp8 hc8 hp hc hG q.2 hk hIv hJv hMv (Or.inr ⟨r1, by decide, by decide⟩)⟩
    · exfalso
      revert k1
      unfold zo_settle
      repeat' split
      all_goals (intro w; simp at w)
    · refine ⟨11, 12, [some (az_r (0)), some (az_i (zb)), some (az_i (1)), none], N - 1, M - 6, by omega, by omega, rfl, rfl, ?_⟩
      refine bz_to 1 (pc2 := 14) (lv2 := [some (az_r (0)), some (az_i (zb)), some (az_i (1)), none]) (st2 := [az_i (-900002)]) (s2 := t) (rfl) ?_
      exact bz_retI rfl rfl ⟨_, rfl, rfl, lch_of H hp8 hc8 hp hc hG q.2 hk hIv hJv hMv (Or.inr ⟨r1, by decide, by decide⟩)⟩
set_option maxRecDepth 100000 in
theorem lw_settle0 {L : Nat} {xs : Nat → Int32} {tx : Nat → Option String} (htx : ∀ i t, am_sx[i]? = some t → tx i = some t) {d : Nat} (hd : 14 ≤ d) {s : az_S} {S : zR} {h c : Nat} {G : Nat → zR} (H : zkS s S h c G) (hh : h ≤ 9000) {e : List Nat} {N M : Nat} (hN : 1 ≤ N) (hM : 6 ≤ M) {zb : Int} (h_zb : az_in zb) : bz_R L xs tx d am_m_L_settle 0 (az_ini (am_mL am_m_L_settle) [az_r (0), az_i (zb), az_i (0)]) [] e s N M (lwc e s S (zo_settle S zb 0).2.2.2 h (h + 1)) := by
  obtain ⟨hR, hI, hJ, hM0⟩ := zkS_R H
  obtain ⟨p, hp8, hc8, hp, hc, hG⟩ := H.2.1
  have hh9 : h ≤ 10000 := by omega
  have hk : zok S (zo_settle S zb 0) := zok_settle hI hh9 _ _
  have hIv := zIv_settle hI hh9 zb 0
  have hJv := zJ_settle hI hJ zb 0
  have hMv := zM_settle hI hM0 zb 0
  refine bz_to 0 (pc2 := 0) (lv2 := [some (az_r (0)), some (az_i (zb)), some (az_i (0)), none]) (st2 := []) (s2 := s) (rfl) ?_
  refine bz_to 3 (pc2 := 3) (lv2 := [some (az_r (0)), some (az_i (zb)), some (az_i (0)), none]) (st2 := [az_i (0), az_i (zb), az_r (0)]) (s2 := s) (rfl) ?_
  refine bz_c htx 6 (m2 := am_m_X9_settle) (as := [az_r (0), az_i (zb), az_i (0)]) (rest := []) rfl rfl rfl (by omega) (zs_X9_settle_0 (by omega) hR hI hh9 (by omega) hp hp8 hc hc8 h_zb) (fun v t q => ?_) (fun E t q => ?_)
  · obtain ⟨r1, rfl⟩ := zout_l q.1
    exact bz_retI rfl rfl ⟨_, rfl, rfl, lch_of H hp8 hc8 hp hc hG q.2 hk hIv hJv hMv (Or.inl ⟨r1, rfl⟩)⟩
  · obtain ⟨r1, r2⟩ := zout_r q.1
    rcases r2 with ⟨k1, rfl⟩ | ⟨k1, rfl⟩ | ⟨k1, k2, rfl⟩
    · refine ⟨7, 8, [some (az_r (0)), some (az_i (zb)), some (az_i (0)), none], N - 1, M - 6, by omega, by omega, rfl, rfl, ?_⟩
      refine bz_to 1 (pc2 := 10) (lv2 := [some (az_r (0)), some (az_i (zb)), some (az_i (0)), none]) (st2 := [az_i (-900001)]) (s2 := t) (rfl) ?_
      exact bz_retI rfl rfl ⟨_, rfl, rfl, lch_of H hp8 hc8 hp hc hG q.2 hk hIv hJv hMv (Or.inr ⟨r1, by decide, by decide⟩)⟩
    · exfalso
      revert k1
      unfold zo_settle
      repeat' split
      all_goals (intro w; simp at w)
    · refine ⟨11, 12, [some (az_r (0)), some (az_i (zb)), some (az_i (0)), none], N - 1, M - 6, by omega, by omega, rfl, rfl, ?_⟩
      refine bz_to 1 (pc2 := 14) (lv2 := [some (az_r (0)), some (az_i (zb)), some (az_i (0)), none]) (st2 := [az_i (-900002)]) (s2 := t) (rfl) ?_
      exact bz_retI rfl rfl ⟨_, rfl, rfl, lch_of H hp8 hc8 hp hc hG q.2 hk hIv hJv hMv (Or.inr ⟨r1, by decide, by decide⟩)⟩
set_option maxRecDepth 100000 in
theorem lw_strike1 {L : Nat} {xs : Nat → Int32} {tx : Nat → Option String} (htx : ∀ i t, am_sx[i]? = some t → tx i = some t) {d : Nat} (hd : 14 ≤ d) {s : az_S} {S : zR} {h c : Nat} {G : Nat → zR} (H : zkS s S h c G) (hh : h ≤ 9000) {e : List Nat} {N M : Nat} (hN : 1 ≤ N) (hM : 6 ≤ M) {zg : Int} (h_zg : az_in zg) : bz_R L xs tx d am_m_L_strike 0 (az_ini (am_mL am_m_L_strike) [az_r (0), az_i (zg), az_i (1)]) [] e s N M (lwc e s S (zo_strike S zg 1).2.2.2 h (h + 1)) := by
  obtain ⟨hR, hI, hJ, hM0⟩ := zkS_R H
  obtain ⟨p, hp8, hc8, hp, hc, hG⟩ := H.2.1
  have hh9 : h ≤ 10000 := by omega
  have hk : zok S (zo_strike S zg 1) := zok_strike hI hh9 _ (by decide)
  have hIv := zIv_strike hI zg 1 (by decide)
  have hJv := zJ_strike hI hJ zg 1
  have hMv := zM_strike hI hM0 zg 1
  refine bz_to 0 (pc2 := 0) (lv2 := [some (az_r (0)), some (az_i (zg)), some (az_i (1)), none]) (st2 := []) (s2 := s) (rfl) ?_
  refine bz_to 3 (pc2 := 3) (lv2 := [some (az_r (0)), some (az_i (zg)), some (az_i (1)), none]) (st2 := [az_i (1), az_i (zg), az_r (0)]) (s2 := s) (rfl) ?_
  refine bz_c htx 6 (m2 := am_m_X9_strike) (as := [az_r (0), az_i (zg), az_i (1)]) (rest := []) rfl rfl rfl (by omega) (zs_X9_strike_1 (by omega) hR hI hh9 (by omega) hp hp8 hc hc8 h_zg) (fun v t q => ?_) (fun E t q => ?_)
  · obtain ⟨r1, rfl⟩ := zout_l q.1
    exact bz_retI rfl rfl ⟨_, rfl, rfl, lch_of H hp8 hc8 hp hc hG q.2 hk hIv hJv hMv (Or.inl ⟨r1, rfl⟩)⟩
  · obtain ⟨r1, r2⟩ := zout_r q.1
    rcases r2 with ⟨k1, rfl⟩ | ⟨k1, rfl⟩ | ⟨k1, k2, rfl⟩
    · refine ⟨7, 8, [some (az_r (0)), some (az_i (zg)), some (az_i (1)), none], N - 1, M - 6, by omega, by omega, rfl, rfl, ?_⟩
      refine bz_to 1 (pc2 := 10) (lv2 := [some (az_r (0)), some (az_i (zg)), some (az_i (1)), none]) (st2 := [az_i (-900001)]) (s2 := t) (rfl) ?_
      exact bz_retI rfl rfl ⟨_, rfl, rfl, lch_of H hp8 hc8 hp hc hG q.2 hk hIv hJv hMv (Or.inr ⟨r1, by decide, by decide⟩)⟩
    · exfalso
      revert k1
      unfold zo_strike
      repeat' split
      all_goals (intro w; simp at w)
    · refine ⟨11, 12, [some (az_r (0)), some (az_i (zg)), some (az_i (1)), none], N - 1, M - 6, by omega, by omega, rfl, rfl, ?_⟩
      refine bz_to 1 (pc2 := 14) (lv2 := [some (az_r (0)), some (az_i (zg)), some (az_i (1)), none]) (st2 := [az_i (-900002)]) (s2 := t) (rfl) ?_
      exact bz_retI rfl rfl ⟨_, rfl, rfl, lch_of H hp8 hc8 hp hc hG q.2 hk hIv hJv hMv (Or.inr ⟨r1, by decide, by decide⟩)⟩
set_option maxRecDepth 100000 in
theorem lw_strike0 {L : Nat} {xs : Nat → Int32} {tx : Nat → Option String} (htx : ∀ i t, am_sx[i]? = some t → tx i = some t) {d : Nat} (hd : 14 ≤ d) {s : az_S} {S : zR} {h c : Nat} {G : Nat → zR} (H : zkS s S h c G) (hh : h ≤ 9000) {e : List Nat} {N M : Nat} (hN : 1 ≤ N) (hM : 6 ≤ M) {zg : Int} (h_zg : az_in zg) : bz_R L xs tx d am_m_L_strike 0 (az_ini (am_mL am_m_L_strike) [az_r (0), az_i (zg), az_i (0)]) [] e s N M (lwc e s S (zo_strike S zg 0).2.2.2 h (h + 1)) := by
  obtain ⟨hR, hI, hJ, hM0⟩ := zkS_R H
  obtain ⟨p, hp8, hc8, hp, hc, hG⟩ := H.2.1
  have hh9 : h ≤ 10000 := by omega
  have hk : zok S (zo_strike S zg 0) := zok_strike hI hh9 _ (by decide)
  have hIv := zIv_strike hI zg 0 (by decide)
  have hJv := zJ_strike hI hJ zg 0
  have hMv := zM_strike hI hM0 zg 0
  refine bz_to 0 (pc2 := 0) (lv2 := [some (az_r (0)), some (az_i (zg)), some (az_i (0)), none]) (st2 := []) (s2 := s) (rfl) ?_
  refine bz_to 3 (pc2 := 3) (lv2 := [some (az_r (0)), some (az_i (zg)), some (az_i (0)), none]) (st2 := [az_i (0), az_i (zg), az_r (0)]) (s2 := s) (rfl) ?_
  refine bz_c htx 6 (m2 := am_m_X9_strike) (as := [az_r (0), az_i (zg), az_i (0)]) (rest := []) rfl rfl rfl (by omega) (zs_X9_strike_0 (by omega) hR hI hh9 (by omega) hp hp8 hc hc8 h_zg) (fun v t q => ?_) (fun E t q => ?_)
  · obtain ⟨r1, rfl⟩ := zout_l q.1
    exact bz_retI rfl rfl ⟨_, rfl, rfl, lch_of H hp8 hc8 hp hc hG q.2 hk hIv hJv hMv (Or.inl ⟨r1, rfl⟩)⟩
  · obtain ⟨r1, r2⟩ := zout_r q.1
    rcases r2 with ⟨k1, rfl⟩ | ⟨k1, rfl⟩ | ⟨k1, k2, rfl⟩
    · refine ⟨7, 8, [some (az_r (0)), some (az_i (zg)), some (az_i (0)), none], N - 1, M - 6, by omega, by omega, rfl, rfl, ?_⟩
      refine bz_to 1 (pc2 := 10) (lv2 := [some (az_r (0)), some (az_i (zg)), some (az_i (0)), none]) (st2 := [az_i (-900001)]) (s2 := t) (rfl) ?_
      exact bz_retI rfl rfl ⟨_, rfl, rfl, lch_of H hp8 hc8 hp hc hG q.2 hk hIv hJv hMv (Or.inr ⟨r1, by decide, by decide⟩)⟩
    · exfalso
      revert k1
      unfold zo_strike
      repeat' split
      all_goals (intro w; simp at w)
    · refine ⟨11, 12, [some (az_r (0)), some (az_i (zg)), some (az_i (0)), none], N - 1, M - 6, by omega, by omega, rfl, rfl, ?_⟩
      refine bz_to 1 (pc2 := 14) (lv2 := [some (az_r (0)), some (az_i (zg)), some (az_i (0)), none]) (st2 := [az_i (-900002)]) (s2 := t) (rfl) ?_
      exact bz_retI rfl rfl ⟨_, rfl, rfl, lch_of H hp8 hc8 hp hc hG q.2 hk hIv hJv hMv (Or.inr ⟨r1, by decide, by decide⟩)⟩
set_option maxRecDepth 100000 in
theorem lw_pass {L : Nat} {xs : Nat → Int32} {tx : Nat → Option String} (htx : ∀ i t, am_sx[i]? = some t → tx i = some t) {d : Nat} (hd : 14 ≤ d) {s : az_S} {S : zR} {h c : Nat} {G : Nat → zR} (H : zkS s S h c G) (hh : h ≤ 9000) {e : List Nat} {N M : Nat} (hN : 1 ≤ N) (hM : 6 ≤ M) {zh : Int} (h_zh : az_in zh) : bz_R L xs tx d am_m_L_pass 0 (az_ini (am_mL am_m_L_pass) [az_r (0), az_i (zh)]) [] e s N M (lwc e s S (zo_pass S zh).2.2.2 h (h + 1)) := by
  obtain ⟨hR, hI, hJ, hM0⟩ := zkS_R H
  obtain ⟨p, hp8, hc8, hp, hc, hG⟩ := H.2.1
  have hh9 : h ≤ 10000 := by omega
  have hk : zok S (zo_pass S zh) := zok_pass hI _
  have hIv := zIv_pass hI zh
  have hJv := zJ_pass hI hJ zh
  have hMv := zM_pass hM0 zh
  refine bz_to 0 (pc2 := 0) (lv2 := [some (az_r (0)), some (az_i (zh)), none]) (st2 := []) (s2 := s) (rfl) ?_
  refine bz_to 2 (pc2 := 2) (lv2 := [some (az_r (0)), some (az_i (zh)), none]) (st2 := [az_i (zh), az_r (0)]) (s2 := s) (rfl) ?_
  refine bz_c htx 5 (m2 := am_m_X9_pass) (as := [az_r (0), az_i (zh)]) (rest := []) rfl rfl rfl (by omega) (zs_X9_pass (by omega) hR hI hh9 (by omega) hp hp8 hc hc8 h_zh) (fun v t q => ?_) (fun E t q => ?_)
  · obtain ⟨r1, rfl⟩ := zout_l q.1
    exact bz_retI rfl rfl ⟨_, rfl, rfl, lch_of H hp8 hc8 hp hc hG q.2 hk hIv hJv hMv (Or.inl ⟨r1, rfl⟩)⟩
  · obtain ⟨r1, r2⟩ := zout_r q.1
    rcases r2 with ⟨k1, rfl⟩ | ⟨k1, rfl⟩ | ⟨k1, k2, rfl⟩
    · exfalso
      revert k1
      unfold zo_pass
      repeat' split
      all_goals (intro w; simp at w)
    · refine ⟨6, 7, [some (az_r (0)), some (az_i (zh)), none], N - 1, M - 6, by omega, by omega, rfl, rfl, ?_⟩
      refine bz_to 1 (pc2 := 9) (lv2 := [some (az_r (0)), some (az_i (zh)), none]) (st2 := [az_i (-900001)]) (s2 := t) (rfl) ?_
      exact bz_retI rfl rfl ⟨_, rfl, rfl, lch_of H hp8 hc8 hp hc hG q.2 hk hIv hJv hMv (Or.inr ⟨r1, by decide, by decide⟩)⟩
    · exfalso
      unfold zo_pass at k1 k2 r1
      split at k1 <;> simp_all
