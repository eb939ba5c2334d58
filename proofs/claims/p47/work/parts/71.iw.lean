/-! THE LAW, 11: isWell; written by program (wip/p47tools/l71.py) -/
set_option maxRecDepth 100000 in
set_option maxHeartbeats 1600000 in
theorem lq_690 {L : Nat} {xs : Nat → Int32} {tx : Nat → Option String} (htx : ∀ i t, am_sx[i]? = some t → tx i = some t) {d : Nat} (hd : 16 ≤ d) {s : az_S} {S : zR} {h c : Nat} {G : Nat → zR} (H : zkS s S h c G) (hh8 : h ≤ 9000) {e : List Nat} (hk0 : ((e ++ [36]) ++ [36])[e.length]? = some 36) (hk1 : ((e ++ [36]) ++ [36])[(e ++ [36]).length]? = some 36) {Q : az_O → List Nat → az_S → Prop} {N M k : Nat} (hk : k < 36) {x1 x2 x3 x4 x5 x6 x7 x8 x9 x13 x14 x16 x17 x18 x19 x20 : Option az_V} (HC : ∀ {u : az_S} {x13 x14 x15 x16 x17 x18 x19 x20 : Option az_V}, zKx s u (34 + e.length) → u (34 + e.length) = zfw S 0 6 → u (34 + (e ++ [36]).length) = zfw S 1 6 → bz_R L xs tx d am_m_L_isWell 406 [some (az_r (0)), x1, x2, x3, x4, x5, x6, x7, x8, x9, some (az_r (34 + e.length)), some (az_r (34 + (e ++ [36]).length)), some (az_i ((((k + 1) : Nat) : Int))), x13, x14, x15, x16, x17, x18, x19, x20] [] ((e ++ [36]) ++ [36]) u (N) (M) Q)  : ∀ {u : az_S} (K0 : zKx s u (34 + e.length)) (hr0 : u (34 + e.length) = zfw S 0 6) (hr1 : u (34 + (e ++ [36]).length) = zfw S 1 6), bz_R L xs tx d am_m_L_isWell 690 [some (az_r (0)), x1, x2, x3, x4, x5, x6, x7, x8, x9, some (az_r (34 + e.length)), some (az_r (34 + (e ++ [36]).length)), some (az_i (((k : Nat) : Int))), x13, x14, some (az_i (zqw (zq_hangs S (((k / 6) : Nat) : Int) (((k % 6) : Nat) : Int)))), x16, x17, x18, x19, x20] [] ((e ++ [36]) ++ [36]) u (N + 1) (M + 6) Q := by
  have hn := zn_le (zkS_R H).2.1
  have hz := zn_eq (zkS_R H).2.1
  have hI := (zkS_R H).2.1
  have hM9 := (zkS_R H).2.2.2
  have hh : h ≤ 10000 := by omega
  have hh9 := hh
  have hu6 : k / 6 < 6 := by omega
  have hv6 : k % 6 < 6 := by omega
  have e36 : 6 * (k / 6) + k % 6 = k := by omega
  have w0 := zqw_way hI hh9 0 hu6 hv6
  have w1 := zqw_way hI hh9 1 hu6 hv6
  have wh := zqw_hang hI hh9 hu6 hv6
  have wg := zhg_r S (k / 6) (k % 6)
  rw [e36] at w0 w1
  intro u K0 hr0 hr1
  have hzr : -900002 ≤ zqw (zq_hangs S (((k / 6) : Nat) : Int) (((k % 6) : Nat) : Int)) ∧ zqw (zq_hangs S (((k / 6) : Nat) : Int) (((k % 6) : Nat) : Int)) < 6 := by rw [wh.1]; split <;> omega
  refine bz_to 3 (pc2 := 695) (lv2 := [some (az_r (0)), x1, x2, x3, x4, x5, x6, x7, x8, x9, some (az_r (34 + e.length)), some (az_r (34 + (e ++ [36]).length)), some (az_i (((k : Nat) : Int))), x13, x14, some (az_i (zqw (zq_hangs S (((k / 6) : Nat) : Int) (((k % 6) : Nat) : Int)))), x16, x17, x18, x19, x20]) (st2 := [az_i (6), az_i (((k : Nat) : Int)), az_r (0)]) (s2 := u) (rfl) ?_
  refine bz_div 696 rfl (by constructor <;> omega) (by constructor <;> omega) rfl ?_
  refine bz_to 0 (pc2 := 696) (lv2 := [some (az_r (0)), x1, x2, x3, x4, x5, x6, x7, x8, x9, some (az_r (34 + e.length)), some (az_r (34 + (e ++ [36]).length)), some (az_i (((k : Nat) : Int))), x13, x14, some (az_i (zqw (zq_hangs S (((k / 6) : Nat) : Int) (((k % 6) : Nat) : Int)))), x16, x17, x18, x19, x20]) (st2 := [az_i ((((k / 6) : Nat) : Int)), az_r (0)]) (s2 := u) (rfl) ?_
  refine bz_to 2 (pc2 := 700) (lv2 := [some (az_r (0)), x1, x2, x3, x4, x5, x6, x7, x8, x9, some (az_r (34 + e.length)), some (az_r (34 + (e ++ [36]).length)), some (az_i (((k : Nat) : Int))), x13, x14, some (az_i (zqw (zq_hangs S (((k / 6) : Nat) : Int) (((k % 6) : Nat) : Int)))), x16, x17, x18, x19, x20]) (st2 := [az_i (6), az_i (((k : Nat) : Int)), az_i ((((k / 6) : Nat) : Int)), az_r (0)]) (s2 := u) (rfl) ?_
  refine bz_rem 701 rfl (by constructor <;> omega) (by constructor <;> omega) rfl ?_
  refine bz_to 0 (pc2 := 701) (lv2 := [some (az_r (0)), x1, x2, x3, x4, x5, x6, x7, x8, x9, some (az_r (34 + e.length)), some (az_r (34 + (e ++ [36]).length)), some (az_i (((k : Nat) : Int))), x13, x14, some (az_i (zqw (zq_hangs S (((k / 6) : Nat) : Int) (((k % 6) : Nat) : Int)))), x16, x17, x18, x19, x20]) (st2 := [az_i ((((k % 6) : Nat) : Int)), az_i ((((k / 6) : Nat) : Int)), az_r (0)]) (s2 := u) (rfl) ?_
  refine bz_w 704 (N1 := 1) (M1 := 6) (N2 := N) (M2 := M) (m2 := am_m_L_hangs) (as := [az_r (0), az_i ((((k / 6) : Nat) : Int)), az_i ((((k % 6) : Nat) : Int))]) (rest := []) rfl rfl rfl ⟨by omega, by omega⟩ (by omega) (lw_hangs htx (d := d - 1) (by omega) (zkS_x H K0) (by omega) (Nat.le_refl _) (Nat.le_refl _) (by constructor <;> omega) (by constructor <;> omega)) (fun v9 e2 t1 q2 => ?_) (fun E e2 t q => by cases q.1)
  obtain ⟨qa, qb, q2⟩ := q2
  cases qa
  rw [qb]
  clear qb
  have K3 := zKx_q K0 q2
  have r4 : t1 (34 + e.length) = zfw S 0 6 := (q2.2 _ (by omega)).trans hr0
  have r5 : t1 (34 + (e ++ [36]).length) = zfw S 1 6 := (q2.2 _ (by omega)).trans hr1
  refine bz_to 0 (pc2 := 704) (lv2 := [some (az_r (0)), x1, x2, x3, x4, x5, x6, x7, x8, x9, some (az_r (34 + e.length)), some (az_r (34 + (e ++ [36]).length)), some (az_i (((k : Nat) : Int))), x13, x14, some (az_i (zqw (zq_hangs S (((k / 6) : Nat) : Int) (((k % 6) : Nat) : Int)))), x16, x17, x18, x19, x20]) (st2 := [az_i (zqw (zq_hangs S (((k / 6) : Nat) : Int) (((k % 6) : Nat) : Int)))]) (s2 := t1) (rfl) ?_
  refine bz_to 1 (pc2 := 706) (lv2 := [some (az_r (0)), x1, x2, x3, x4, x5, x6, x7, x8, x9, some (az_r (34 + e.length)), some (az_r (34 + (e ++ [36]).length)), some (az_i (((k : Nat) : Int))), x13, x14, some (az_i (zqw (zq_hangs S (((k / 6) : Nat) : Int) (((k % 6) : Nat) : Int)))), x16, x17, x18, x19, x20]) (st2 := [az_i (zqw (zq_hangs S (((k / 6) : Nat) : Int) (((k % 6) : Nat) : Int))), az_i (zqw (zq_hangs S (((k / 6) : Nat) : Int) (((k % 6) : Nat) : Int)))]) (s2 := t1) (rfl) ?_
  refine bz_if2 711 709 rfl (by decide) (by first | assumption | exact ⟨by omega, by omega⟩) (by first | assumption | exact ⟨by omega, by omega⟩) (fun _ => ?_) (fun h9 => absurd (show az_cnd _ _ _ by unfold az_cnd; rfl) h9)
  refine bz_to 2 (pc2 := 406) (lv2 := [some (az_r (0)), x1, x2, x3, x4, x5, x6, x7, x8, x9, some (az_r (34 + e.length)), some (az_r (34 + (e ++ [36]).length)), some (az_i ((((k : Nat) : Int) + 1))), x13, x14, some (az_i (zqw (zq_hangs S (((k / 6) : Nat) : Int) (((k % 6) : Nat) : Int)))), x16, x17, x18, x19, x20]) (st2 := []) (s2 := t1) (rfl) ?_
  exact HC K3 r4 r5
set_option maxRecDepth 100000 in
set_option maxHeartbeats 1600000 in
theorem lq_620 {L : Nat} {xs : Nat → Int32} {tx : Nat → Option String} (htx : ∀ i t, am_sx[i]? = some t → tx i = some t) {d : Nat} (hd : 16 ≤ d) {s : az_S} {S : zR} {h c : Nat} {G : Nat → zR} (H : zkS s S h c G) (hh8 : h ≤ 9000) {e : List Nat} (hk0 : ((e ++ [36]) ++ [36])[e.length]? = some 36) (hk1 : ((e ++ [36]) ++ [36])[(e ++ [36]).length]? = some 36) {Q : az_O → List Nat → az_S → Prop} {N M k : Nat} (hk : k < 36) {x1 x2 x3 x4 x5 x6 x7 x8 x9 x13 x17 x18 x20 : Option az_V} (HC : ∀ {u : az_S} {x13 x14 x15 x16 x17 x18 x19 x20 : Option az_V}, zKx s u (34 + e.length) → u (34 + e.length) = zfw S 0 6 → u (34 + (e ++ [36]).length) = zfw S 1 6 → bz_R L xs tx d am_m_L_isWell 406 [some (az_r (0)), x1, x2, x3, x4, x5, x6, x7, x8, x9, some (az_r (34 + e.length)), some (az_r (34 + (e ++ [36]).length)), some (az_i ((((k + 1) : Nat) : Int))), x13, x14, x15, x16, x17, x18, x19, x20] [] ((e ++ [36]) ++ [36]) u (N) (M) Q) {b : Nat} (h14 : 0 < zqw (zq_way S 1 (((k / 6) : Nat) : Int) (((k % 6) : Nat) : Int))) (IH : ∀ {u : az_S} (on : Int) {x17 x18 x19 x20 : Option az_V}, zhY S (k / 6) (k % 6) b on → -1 ≤ on → on < 6 → zKx s u (34 + e.length) → u (34 + e.length) = zfw S 0 6 → u (34 + (e ++ [36]).length) = zfw S 1 6 → bz_R L xs tx d am_m_L_isWell 559 [some (az_r (0)), x1, x2, x3, x4, x5, x6, x7, x8, x9, some (az_r (34 + e.length)), some (az_r (34 + (e ++ [36]).length)), some (az_i (((k : Nat) : Int))), x13, some (az_i (zqw (zq_way S 1 (((k / 6) : Nat) : Int) (((k % 6) : Nat) : Int)))), some (az_i (on)), some (az_i ((((b : Nat) : Int) - 1))), x17, x18, x19, x20] [] ((e ++ [36]) ++ [36]) u (N + 1) (M + 6) Q) {on f : Int} (hon : -1 ≤ on ∧ on < 6) (Y : zhY S (k / 6) (k % 6) (b + 1) on) (hb : b < zn S 0) (hf : f = zac S b (((k % 6) : Nat) : Int)) : ∀ {u : az_S} (K0 : zKx s u (34 + e.length)) (hr0 : u (34 + e.length) = zfw S 0 6) (hr1 : u (34 + (e ++ [36]).length) = zfw S 1 6), bz_R L xs tx d am_m_L_isWell 620 [some (az_r (0)), x1, x2, x3, x4, x5, x6, x7, x8, x9, some (az_r (34 + e.length)), some (az_r (34 + (e ++ [36]).length)), some (az_i (((k : Nat) : Int))), x13, some (az_i (zqw (zq_way S 1 (((k / 6) : Nat) : Int) (((k % 6) : Nat) : Int)))), some (az_i (on)), some (az_i (((b : Nat) : Int))), x17, x18, some (az_i (f)), x20] [] ((e ++ [36]) ++ [36]) u (N + 1) (M + 6) Q := by
  have hn := zn_le (zkS_R H).2.1
  have hz := zn_eq (zkS_R H).2.1
  have hI := (zkS_R H).2.1
  have hM9 := (zkS_R H).2.2.2
  have hh : h ≤ 10000 := by omega
  have hh9 := hh
  have hu6 : k / 6 < 6 := by omega
  have hv6 : k % 6 < 6 := by omega
  have e36 : 6 * (k / 6) + k % 6 = k := by omega
  have w0 := zqw_way hI hh9 0 hu6 hv6
  have w1 := zqw_way hI hh9 1 hu6 hv6
  have wh := zqw_hang hI hh9 hu6 hv6
  have wg := zhg_r S (k / 6) (k % 6)
  rw [e36] at w0 w1
  intro u K0 hr0 hr1
  have hza := (zac_ed hI hh9 hb hv6).2.2
  have htk := ztk_r hI hh9 hb
  have hzd : zqw (zq_way S 1 (((k / 6) : Nat) : Int) (((k % 6) : Nat) : Int)) = zdi S 1 (k / 6) (k % 6) := wh.2 (by omega)
  have hf9 : -1 ≤ f ∧ f < 6 := by rw [hf]; exact hza
  refine bz_to 1 (pc2 := 622) (lv2 := [some (az_r (0)), x1, x2, x3, x4, x5, x6, x7, x8, x9, some (az_r (34 + e.length)), some (az_r (34 + (e ++ [36]).length)), some (az_i (((k : Nat) : Int))), x13, some (az_i (zqw (zq_way S 1 (((k / 6) : Nat) : Int) (((k % 6) : Nat) : Int)))), some (az_i (on)), some (az_i (((b : Nat) : Int))), x17, x18, some (az_i (f)), x20]) (st2 := [az_i (f)]) (s2 := u) (rfl) ?_
  refine bz_ifc 655 625 rfl (by decide) (by first | assumption | exact ⟨by omega, by omega⟩) (fun h1 => ?_) (fun h1 => ?_)
  · have h1 : f < 0 := h1
    refine bz_to 3 (pc2 := 660) (lv2 := [some (az_r (0)), x1, x2, x3, x4, x5, x6, x7, x8, x9, some (az_r (34 + e.length)), some (az_r (34 + (e ++ [36]).length)), some (az_i (((k : Nat) : Int))), x13, some (az_i (zqw (zq_way S 1 (((k / 6) : Nat) : Int) (((k % 6) : Nat) : Int)))), some (az_i (on)), some (az_i (((b : Nat) : Int))), x17, x18, some (az_i (f)), some (az_i (0))]) (st2 := [az_i (0)]) (s2 := u) (rfl) ?_
    refine bz_ifc 680 663 rfl (by decide) ⟨by decide, by decide⟩ (fun _ => ?_) (fun h9 => absurd (show az_cnd _ _ _ by unfold az_cnd; decide) h9)
    refine bz_to 4 (pc2 := 559) (lv2 := [some (az_r (0)), x1, x2, x3, x4, x5, x6, x7, x8, x9, some (az_r (34 + e.length)), some (az_r (34 + (e ++ [36]).length)), some (az_i (((k : Nat) : Int))), x13, some (az_i (zqw (zq_way S 1 (((k / 6) : Nat) : Int) (((k % 6) : Nat) : Int)))), some (az_i (on)), some (az_i ((((b : Nat) : Int) + -1))), x17, x18, some (az_i (f)), some (az_i (0))]) (st2 := []) (s2 := u) (rfl) ?_
    exact IH on (zhY_n Y (fun w hw q => absurd (hf.trans q) (by omega))) hon.1 hon.2 K0 hr0 hr1
  · have h1 : ¬ (f < 0) := h1
    obtain ⟨w, rfl⟩ : ∃ w : Nat, f = ((w : Nat) : Int) := ⟨f.toNat, by omega⟩
    have hw6 : w < 6 := by omega
    have fv := zfw_v hI hh9 1 hu6 hw6
    have hx : k / 6 * 6 + w = 6 * (k / 6) + w := by omega
    refine bz_to 0 (pc2 := 625) (lv2 := [some (az_r (0)), x1, x2, x3, x4, x5, x6, x7, x8, x9, some (az_r (34 + e.length)), some (az_r (34 + (e ++ [36]).length)), some (az_i (((k : Nat) : Int))), x13, some (az_i (zqw (zq_way S 1 (((k / 6) : Nat) : Int) (((k % 6) : Nat) : Int)))), some (az_i (on)), some (az_i (((b : Nat) : Int))), x17, x18, some (az_i (((w : Nat) : Int))), x20]) (st2 := []) (s2 := u) (rfl) ?_
    refine bz_to 3 (pc2 := 631) (lv2 := [some (az_r (0)), x1, x2, x3, x4, x5, x6, x7, x8, x9, some (az_r (34 + e.length)), some (az_r (34 + (e ++ [36]).length)), some (az_i (((k : Nat) : Int))), x13, some (az_i (zqw (zq_way S 1 (((k / 6) : Nat) : Int) (((k % 6) : Nat) : Int)))), some (az_i (on)), some (az_i (((b : Nat) : Int))), x17, x18, some (az_i (((w : Nat) : Int))), x20]) (st2 := [az_i (6), az_i (((k : Nat) : Int)), az_r (34 + (e ++ [36]).length)]) (s2 := u) (rfl) ?_
    refine bz_div 632 rfl (by constructor <;> omega) (by constructor <;> omega) rfl ?_
    refine bz_to 0 (pc2 := 632) (lv2 := [some (az_r (0)), x1, x2, x3, x4, x5, x6, x7, x8, x9, some (az_r (34 + e.length)), some (az_r (34 + (e ++ [36]).length)), some (az_i (((k : Nat) : Int))), x13, some (az_i (zqw (zq_way S 1 (((k / 6) : Nat) : Int) (((k % 6) : Nat) : Int)))), some (az_i (on)), some (az_i (((b : Nat) : Int))), x17, x18, some (az_i (((w : Nat) : Int))), x20]) (st2 := [az_i ((((k / 6) : Nat) : Int)), az_r (34 + (e ++ [36]).length)]) (s2 := u) (rfl) ?_
    refine bz_to 4 (pc2 := 638) (lv2 := [some (az_r (0)), x1, x2, x3, x4, x5, x6, x7, x8, x9, some (az_r (34 + e.length)), some (az_r (34 + (e ++ [36]).length)), some (az_i (((k : Nat) : Int))), x13, some (az_i (zqw (zq_way S 1 (((k / 6) : Nat) : Int) (((k % 6) : Nat) : Int)))), some (az_i (on)), some (az_i (((b : Nat) : Int))), x17, x18, some (az_i (((w : Nat) : Int))), x20]) (st2 := [az_i ((((((k / 6) : Nat) : Int) * 6) + ((w : Nat) : Int))), az_r (34 + (e ++ [36]).length)]) (s2 := u) (rfl) ?_
    refine bz_ld 639 rfl hk1 (by constructor <;> omega) ⟨by decide, rfl⟩ ?_
    refine bz_to 0 (pc2 := 639) (lv2 := [some (az_r (0)), x1, x2, x3, x4, x5, x6, x7, x8, x9, some (az_r (34 + e.length)), some (az_r (34 + (e ++ [36]).length)), some (az_i (((k : Nat) : Int))), x13, some (az_i (zqw (zq_way S 1 (((k / 6) : Nat) : Int) (((k % 6) : Nat) : Int)))), some (az_i (on)), some (az_i (((b : Nat) : Int))), x17, x18, some (az_i (((w : Nat) : Int))), x20]) (st2 := [az_i (u (34 + (e ++ [36]).length) (((k / 6) * 6) + w))]) (s2 := u) (rfl) ?_
    refine bz_to 0 (pc2 := 639) (lv2 := [some (az_r (0)), x1, x2, x3, x4, x5, x6, x7, x8, x9, some (az_r (34 + e.length)), some (az_r (34 + (e ++ [36]).length)), some (az_i (((k : Nat) : Int))), x13, some (az_i (zqw (zq_way S 1 (((k / 6) : Nat) : Int) (((k % 6) : Nat) : Int)))), some (az_i (on)), some (az_i (((b : Nat) : Int))), x17, x18, some (az_i (((w : Nat) : Int))), x20]) (st2 := [az_i ((zfw S 1 6) (((k / 6) * 6) + w))]) (s2 := u) (by rw [hr1]; rfl) ?_
    refine bz_to 2 (pc2 := 642) (lv2 := [some (az_r (0)), x1, x2, x3, x4, x5, x6, x7, x8, x9, some (az_r (34 + e.length)), some (az_r (34 + (e ++ [36]).length)), some (az_i (((k : Nat) : Int))), x13, some (az_i (zqw (zq_way S 1 (((k / 6) : Nat) : Int) (((k % 6) : Nat) : Int)))), some (az_i (on)), some (az_i (((b : Nat) : Int))), x17, x18, some (az_i (((w : Nat) : Int))), x20]) (st2 := [az_i (((b : Nat) : Int)), az_r (0), az_i ((zfw S 1 6) (((k / 6) * 6) + w))]) (s2 := u) (rfl) ?_
    refine bz_q (v := ztk S b) (m2 := am_m_X9_takes) (as := [az_r (0), az_i (((b : Nat) : Int))]) (rest := [az_i ((zfw S 1 6) (((k / 6) * 6) + w))]) htx 645 rfl rfl rfl (by omega) (lk_takes (zkS_x H K0) hh (by omega) (by omega)) (fun t6 q7 => ?_)
    have K8 := zKx_q K0 q7
    have r9 : t6 (34 + e.length) = zfw S 0 6 := (q7.2 _ (by omega)).trans hr0
    have r10 : t6 (34 + (e ++ [36]).length) = zfw S 1 6 := (q7.2 _ (by omega)).trans hr1
    refine bz_to 0 (pc2 := 645) (lv2 := [some (az_r (0)), x1, x2, x3, x4, x5, x6, x7, x8, x9, some (az_r (34 + e.length)), some (az_r (34 + (e ++ [36]).length)), some (az_i (((k : Nat) : Int))), x13, some (az_i (zqw (zq_way S 1 (((k / 6) : Nat) : Int) (((k % 6) : Nat) : Int)))), some (az_i (on)), some (az_i (((b : Nat) : Int))), x17, x18, some (az_i (((w : Nat) : Int))), x20]) (st2 := [az_i (ztk S b), az_i ((zfw S 1 6) (((k / 6) * 6) + w))]) (s2 := t6) (rfl) ?_
    refine bz_to 2 (pc2 := 648) (lv2 := [some (az_r (0)), x1, x2, x3, x4, x5, x6, x7, x8, x9, some (az_r (34 + e.length)), some (az_r (34 + (e ++ [36]).length)), some (az_i (((k : Nat) : Int))), x13, some (az_i (zqw (zq_way S 1 (((k / 6) : Nat) : Int) (((k % 6) : Nat) : Int)))), some (az_i (on)), some (az_i (((b : Nat) : Int))), x17, x18, some (az_i (((w : Nat) : Int))), x20]) (st2 := [az_i (zqw (zq_way S 1 (((k / 6) : Nat) : Int) (((k % 6) : Nat) : Int))), az_i (((zfw S 1 6) (((k / 6) * 6) + w) + ztk S b))]) (s2 := t6) (rfl) ?_
    have hfr : -1 ≤ ((zfw S 1 6) (((k / 6) * 6) + w) + ztk S b) ∧ ((zfw S 1 6) (((k / 6) * 6) + w) + ztk S b) ≤ 20000 := by rw [show ((k / 6) * 6) + w = 6 * (k / 6) + w from hx]; omega
    refine bz_if2 655 651 rfl (by decide) (by first | assumption | exact ⟨by omega, by omega⟩) (by first | assumption | exact ⟨by omega, by omega⟩) (fun h2 => ?_) (fun h2 => ?_)
    · have h2 : ¬ ((zfw S 1 6) (((k / 6) * 6) + w) + ztk S b) = zqw (zq_way S 1 (((k / 6) : Nat) : Int) (((k % 6) : Nat) : Int)) := h2
      refine bz_to 3 (pc2 := 660) (lv2 := [some (az_r (0)), x1, x2, x3, x4, x5, x6, x7, x8, x9, some (az_r (34 + e.length)), some (az_r (34 + (e ++ [36]).length)), some (az_i (((k : Nat) : Int))), x13, some (az_i (zqw (zq_way S 1 (((k / 6) : Nat) : Int) (((k % 6) : Nat) : Int)))), some (az_i (on)), some (az_i (((b : Nat) : Int))), x17, x18, some (az_i (((w : Nat) : Int))), some (az_i (0))]) (st2 := [az_i (0)]) (s2 := t6) (rfl) ?_
      refine bz_ifc 680 663 rfl (by decide) ⟨by decide, by decide⟩ (fun _ => ?_) (fun h9 => absurd (show az_cnd _ _ _ by unfold az_cnd; decide) h9)
      refine bz_to 4 (pc2 := 559) (lv2 := [some (az_r (0)), x1, x2, x3, x4, x5, x6, x7, x8, x9, some (az_r (34 + e.length)), some (az_r (34 + (e ++ [36]).length)), some (az_i (((k : Nat) : Int))), x13, some (az_i (zqw (zq_way S 1 (((k / 6) : Nat) : Int) (((k % 6) : Nat) : Int)))), some (az_i (on)), some (az_i ((((b : Nat) : Int) + -1))), x17, x18, some (az_i (((w : Nat) : Int))), some (az_i (0))]) (st2 := []) (s2 := t6) (rfl) ?_
      have hne : ∀ w2 : Nat, w2 < 6 → zac S b ((k % 6 : Nat) : Int) = w2 → ¬ zdi S 1 (k / 6) w2 + ztk S b = zdi S 1 (k / 6) (k % 6) := fun w2 hw2 q => by
        have e2 : w2 = w := by have := hf.trans q; omega
        rw [e2]
        rw [show ((k / 6) * 6) + w = 6 * (k / 6) + w from hx, hzd] at h2
        rcases fv with ⟨f1, f2, f3⟩ | ⟨f1, f2, f3, f4⟩
        · rw [f2]; have := w1.2.2; omega
        · rw [← f1]; exact h2
      exact IH on (zhY_n Y hne) hon.1 hon.2 K8 r9 r10
    · have h2 : ((zfw S 1 6) (((k / 6) * 6) + w) + ztk S b) = zqw (zq_way S 1 (((k / 6) : Nat) : Int) (((k % 6) : Nat) : Int)) := Decidable.not_not.mp h2
      have hok : zdi S 1 (k / 6) w + ztk S b = zdi S 1 (k / 6) (k % 6) := by
        rw [show ((k / 6) * 6) + w = 6 * (k / 6) + w from hx, hzd] at h2
        rcases fv with ⟨f1, f2, f3⟩ | ⟨f1, f2, f3, f4⟩
        · rw [f1] at h2; have := w1.2.2; omega
        · rw [← f1]; exact h2
      refine bz_to 4 (pc2 := 660) (lv2 := [some (az_r (0)), x1, x2, x3, x4, x5, x6, x7, x8, x9, some (az_r (34 + e.length)), some (az_r (34 + (e ++ [36]).length)), some (az_i (((k : Nat) : Int))), x13, some (az_i (zqw (zq_way S 1 (((k / 6) : Nat) : Int) (((k % 6) : Nat) : Int)))), some (az_i (on)), some (az_i (((b : Nat) : Int))), x17, x18, some (az_i (((w : Nat) : Int))), some (az_i (1))]) (st2 := [az_i (1)]) (s2 := t6) (rfl) ?_
      refine bz_ifc 680 663 rfl (by decide) ⟨by decide, by decide⟩ (fun h9 => absurd h9 (by unfold az_cnd; decide)) (fun _ => ?_)
      refine bz_to 1 (pc2 := 665) (lv2 := [some (az_r (0)), x1, x2, x3, x4, x5, x6, x7, x8, x9, some (az_r (34 + e.length)), some (az_r (34 + (e ++ [36]).length)), some (az_i (((k : Nat) : Int))), x13, some (az_i (zqw (zq_way S 1 (((k / 6) : Nat) : Int) (((k % 6) : Nat) : Int)))), some (az_i (on)), some (az_i (((b : Nat) : Int))), x17, x18, some (az_i (((w : Nat) : Int))), some (az_i (1))]) (st2 := [az_i (on)]) (s2 := t6) (rfl) ?_
      refine bz_ifc 675 668 rfl (by decide) (by first | assumption | exact ⟨by omega, by omega⟩) (fun h3 => ?_) (fun h3 => ?_)
      · have h3 : on < 0 := h3
        refine bz_to 5 (pc2 := 559) (lv2 := [some (az_r (0)), x1, x2, x3, x4, x5, x6, x7, x8, x9, some (az_r (34 + e.length)), some (az_r (34 + (e ++ [36]).length)), some (az_i (((k : Nat) : Int))), x13, some (az_i (zqw (zq_way S 1 (((k / 6) : Nat) : Int) (((k % 6) : Nat) : Int)))), some (az_i (((w : Nat) : Int))), some (az_i ((((b : Nat) : Int) + -1))), x17, x18, some (az_i (((w : Nat) : Int))), some (az_i (1))]) (st2 := []) (s2 := t6) (rfl) ?_
        exact IH ((w : Nat) : Int) (zhY_w Y hb hw6 hf.symm hok (Or.inl h3)) (by omega) (by omega) K8 r9 r10
      · have h3 : ¬ (on < 0) := h3
        refine bz_to 2 (pc2 := 672) (lv2 := [some (az_r (0)), x1, x2, x3, x4, x5, x6, x7, x8, x9, some (az_r (34 + e.length)), some (az_r (34 + (e ++ [36]).length)), some (az_i (((k : Nat) : Int))), x13, some (az_i (zqw (zq_way S 1 (((k / 6) : Nat) : Int) (((k % 6) : Nat) : Int)))), some (az_i (on)), some (az_i (((b : Nat) : Int))), x17, x18, some (az_i (((w : Nat) : Int))), some (az_i (1))]) (st2 := [az_i (on), az_i (((w : Nat) : Int))]) (s2 := t6) (rfl) ?_
        refine bz_if2 680 675 rfl (by decide) (by first | assumption | exact ⟨by omega, by omega⟩) (by first | assumption | exact ⟨by omega, by omega⟩) (fun h4 => ?_) (fun h4 => ?_)
        · have h4 : on ≤ ((w : Nat) : Int) := h4
          refine bz_to 4 (pc2 := 559) (lv2 := [some (az_r (0)), x1, x2, x3, x4, x5, x6, x7, x8, x9, some (az_r (34 + e.length)), some (az_r (34 + (e ++ [36]).length)), some (az_i (((k : Nat) : Int))), x13, some (az_i (zqw (zq_way S 1 (((k / 6) : Nat) : Int) (((k % 6) : Nat) : Int)))), some (az_i (on)), some (az_i ((((b : Nat) : Int) + -1))), x17, x18, some (az_i (((w : Nat) : Int))), some (az_i (1))]) (st2 := []) (s2 := t6) (rfl) ?_
          exact IH on (zhY_k Y hf.symm h3 h4) (by omega) (by omega) K8 r9 r10
        · have h4 : ¬ (on ≤ ((w : Nat) : Int)) := h4
          refine bz_to 5 (pc2 := 559) (lv2 := [some (az_r (0)), x1, x2, x3, x4, x5, x6, x7, x8, x9, some (az_r (34 + e.length)), some (az_r (34 + (e ++ [36]).length)), some (az_i (((k : Nat) : Int))), x13, some (az_i (zqw (zq_way S 1 (((k / 6) : Nat) : Int) (((k % 6) : Nat) : Int)))), some (az_i (((w : Nat) : Int))), some (az_i ((((b : Nat) : Int) + -1))), x17, x18, some (az_i (((w : Nat) : Int))), some (az_i (1))]) (st2 := []) (s2 := t6) (rfl) ?_
          exact IH ((w : Nat) : Int) (zhY_w Y hb hw6 hf.symm hok (Or.inr (by omega))) (by omega) (by omega) K8 r9 r10
set_option maxRecDepth 100000 in
set_option maxHeartbeats 1600000 in
theorem lq_559 {L : Nat} {xs : Nat → Int32} {tx : Nat → Option String} (htx : ∀ i t, am_sx[i]? = some t → tx i = some t) {d : Nat} (hd : 16 ≤ d) {s : az_S} {S : zR} {h c : Nat} {G : Nat → zR} (H : zkS s S h c G) (hh8 : h ≤ 9000) {e : List Nat} (hk0 : ((e ++ [36]) ++ [36])[e.length]? = some 36) (hk1 : ((e ++ [36]) ++ [36])[(e ++ [36]).length]? = some 36) {Q : az_O → List Nat → az_S → Prop} {N M k : Nat} (hk : k < 36) {x1 x2 x3 x4 x5 x6 x7 x8 x9 x13 : Option az_V} (HC : ∀ {u : az_S} {x13 x14 x15 x16 x17 x18 x19 x20 : Option az_V}, zKx s u (34 + e.length) → u (34 + e.length) = zfw S 0 6 → u (34 + (e ++ [36]).length) = zfw S 1 6 → bz_R L xs tx d am_m_L_isWell 406 [some (az_r (0)), x1, x2, x3, x4, x5, x6, x7, x8, x9, some (az_r (34 + e.length)), some (az_r (34 + (e ++ [36]).length)), some (az_i ((((k + 1) : Nat) : Int))), x13, x14, x15, x16, x17, x18, x19, x20] [] ((e ++ [36]) ++ [36]) u (N) (M) Q) (h14 : 0 < zqw (zq_way S 1 (((k / 6) : Nat) : Int) (((k % 6) : Nat) : Int))) : ∀ (b : Nat) {u : az_S} (on : Int) (x17 x18 x19 x20 : Option az_V), b ≤ zn S 0 → zhY S (k / 6) (k % 6) b on → -1 ≤ on → on < 6 → zKx s u (34 + e.length) → u (34 + e.length) = zfw S 0 6 → u (34 + (e ++ [36]).length) = zfw S 1 6 → bz_R L xs tx d am_m_L_isWell 559 [some (az_r (0)), x1, x2, x3, x4, x5, x6, x7, x8, x9, some (az_r (34 + e.length)), some (az_r (34 + (e ++ [36]).length)), some (az_i (((k : Nat) : Int))), x13, some (az_i (zqw (zq_way S 1 (((k / 6) : Nat) : Int) (((k % 6) : Nat) : Int)))), some (az_i (on)), some (az_i ((((b : Nat) : Int) - 1))), x17, x18, x19, x20] [] ((e ++ [36]) ++ [36]) u (N + 1) (M + 6) Q := by
  have hn := zn_le (zkS_R H).2.1
  have hz := zn_eq (zkS_R H).2.1
  have hI := (zkS_R H).2.1
  have hM9 := (zkS_R H).2.2.2
  have hh : h ≤ 10000 := by omega
  have hh9 := hh
  have hu6 : k / 6 < 6 := by omega
  have hv6 : k % 6 < 6 := by omega
  have wh := zqw_hang hI hh9 hu6 hv6
  have w1 := zqw_way hI hh9 1 hu6 hv6
  intro b
  induction b using Nat.strongRecOn with
  | _ b ih =>
    intro u on x17 x18 x19 x20 hbn Y hon1 hon2 K0 hr0 hr1
    refine bz_to 1 (pc2 := 561) (lv2 := [some (az_r (0)), x1, x2, x3, x4, x5, x6, x7, x8, x9, some (az_r (34 + e.length)), some (az_r (34 + (e ++ [36]).length)), some (az_i (((k : Nat) : Int))), x13, some (az_i (zqw (zq_way S 1 (((k / 6) : Nat) : Int) (((k % 6) : Nat) : Int)))), some (az_i (on)), some (az_i ((((b : Nat) : Int) - 1))), x17, x18, x19, x20]) (st2 := [az_i ((((b : Nat) : Int) - 1))]) (s2 := u) (rfl) ?_
    refine bz_ifc 690 564 rfl (by decide) (by first | assumption | exact ⟨by omega, by omega⟩) (fun h1 => ?_) (fun h1 => ?_)
    · have h1 : (((b : Nat) : Int) - 1) < 0 := h1
      have b0 : b = 0 := by omega
      subst b0
      have e15 : on = zqw (zq_hangs S (((k / 6) : Nat) : Int) (((k % 6) : Nat) : Int)) := by rw [wh.1, if_neg (by omega)]; exact zhY_e hI hh9 hv6 Y
      subst e15
      exact lq_690 htx hd H hh8 hk0 hk1 hk HC K0 hr0 hr1
    · have h1 : ¬ ((((b : Nat) : Int) - 1) < 0) := h1
      obtain ⟨b, rfl⟩ : ∃ b2, b = b2 + 1 := ⟨b - 1, by omega⟩
      refine bz_to 0 (pc2 := 564) (lv2 := [some (az_r (0)), x1, x2, x3, x4, x5, x6, x7, x8, x9, some (az_r (34 + e.length)), some (az_r (34 + (e ++ [36]).length)), some (az_i (((k : Nat) : Int))), x13, some (az_i (zqw (zq_way S 1 (((k / 6) : Nat) : Int) (((k % 6) : Nat) : Int)))), some (az_i (on)), some (az_i (((b : Nat) : Int))), x17, x18, x19, x20]) (st2 := []) (s2 := u) (by rw [show (((b + 1 : Nat) : Int) - 1) = ((b : Nat) : Int) from by omega]; rfl) ?_
      refine bz_to 1 (pc2 := 566) (lv2 := [some (az_r (0)), x1, x2, x3, x4, x5, x6, x7, x8, x9, some (az_r (34 + e.length)), some (az_r (34 + (e ++ [36]).length)), some (az_i (((k : Nat) : Int))), x13, some (az_i (zqw (zq_way S 1 (((k / 6) : Nat) : Int) (((k % 6) : Nat) : Int)))), some (az_i (on)), some (az_i (((b : Nat) : Int))), x17, x18, x19, x20]) (st2 := [az_i (zqw (zq_way S 1 (((k / 6) : Nat) : Int) (((k % 6) : Nat) : Int)))]) (s2 := u) (rfl) ?_
      refine bz_ifc 690 569 rfl (by decide) (by first | assumption | exact ⟨by omega, by omega⟩) (fun h9 => absurd h9 (by unfold az_cnd; omega)) (fun _ => ?_)
      have hz0 := zI_b hI hh9 (b := b) (by omega)
      refine bz_to 3 (pc2 := 573) (lv2 := [some (az_r (0)), x1, x2, x3, x4, x5, x6, x7, x8, x9, some (az_r (34 + e.length)), some (az_r (34 + (e ++ [36]).length)), some (az_i (((k : Nat) : Int))), x13, some (az_i (zqw (zq_way S 1 (((k / 6) : Nat) : Int) (((k % 6) : Nat) : Int)))), some (az_i (on)), some (az_i (((b : Nat) : Int))), x17, x18, x19, x20]) (st2 := [az_i (0), az_i (((b : Nat) : Int)), az_r (0)]) (s2 := u) (rfl) ?_
      refine bz_q (v := zlB S ((b : Nat) : Int) 0) (m2 := am_m_X9_bridgeOf) (as := [az_r (0), az_i (((b : Nat) : Int)), az_i (0)]) (rest := []) htx 576 rfl rfl rfl (by omega) (lk_bridgeOf (zkS_x H K0) hh (by omega) (by constructor <;> omega) (by constructor <;> omega)) (fun t11 q12 => ?_)
      have K13 := zKx_q K0 q12
      have r14 : t11 (34 + e.length) = zfw S 0 6 := (q12.2 _ (by omega)).trans hr0
      have r15 : t11 (34 + (e ++ [36]).length) = zfw S 1 6 := (q12.2 _ (by omega)).trans hr1
      refine bz_to 0 (pc2 := 576) (lv2 := [some (az_r (0)), x1, x2, x3, x4, x5, x6, x7, x8, x9, some (az_r (34 + e.length)), some (az_r (34 + (e ++ [36]).length)), some (az_i (((k : Nat) : Int))), x13, some (az_i (zqw (zq_way S 1 (((k / 6) : Nat) : Int) (((k % 6) : Nat) : Int)))), some (az_i (on)), some (az_i (((b : Nat) : Int))), x17, x18, x19, x20]) (st2 := [az_i (zlB S ((b : Nat) : Int) 0)]) (s2 := t11) (rfl) ?_
      refine bz_to 0 (pc2 := 576) (lv2 := [some (az_r (0)), x1, x2, x3, x4, x5, x6, x7, x8, x9, some (az_r (34 + e.length)), some (az_r (34 + (e ++ [36]).length)), some (az_i (((k : Nat) : Int))), x13, some (az_i (zqw (zq_way S 1 (((k / 6) : Nat) : Int) (((k % 6) : Nat) : Int)))), some (az_i (on)), some (az_i (((b : Nat) : Int))), x17, x18, x19, x20]) (st2 := [az_i (zB S b 0)]) (s2 := t11) (by rw [zlB_v0 (by omega)]; rfl) ?_
      refine bz_to 4 (pc2 := 582) (lv2 := [some (az_r (0)), x1, x2, x3, x4, x5, x6, x7, x8, x9, some (az_r (34 + e.length)), some (az_r (34 + (e ++ [36]).length)), some (az_i (((k : Nat) : Int))), x13, some (az_i (zqw (zq_way S 1 (((k / 6) : Nat) : Int) (((k % 6) : Nat) : Int)))), some (az_i (on)), some (az_i (((b : Nat) : Int))), some (az_i (zB S b 0)), x18, x19, x20]) (st2 := [az_i (1), az_i (((b : Nat) : Int)), az_r (0)]) (s2 := t11) (rfl) ?_
      refine bz_q (v := zlB S ((b : Nat) : Int) 1) (m2 := am_m_X9_bridgeOf) (as := [az_r (0), az_i (((b : Nat) : Int)), az_i (1)]) (rest := []) htx 585 rfl rfl rfl (by omega) (lk_bridgeOf (zkS_x H K13) hh (by omega) (by constructor <;> omega) (by constructor <;> omega)) (fun t16 q17 => ?_)
      have K18 := zKx_q K13 q17
      have r19 : t16 (34 + e.length) = zfw S 0 6 := (q17.2 _ (by omega)).trans r14
      have r20 : t16 (34 + (e ++ [36]).length) = zfw S 1 6 := (q17.2 _ (by omega)).trans r15
      refine bz_to 0 (pc2 := 585) (lv2 := [some (az_r (0)), x1, x2, x3, x4, x5, x6, x7, x8, x9, some (az_r (34 + e.length)), some (az_r (34 + (e ++ [36]).length)), some (az_i (((k : Nat) : Int))), x13, some (az_i (zqw (zq_way S 1 (((k / 6) : Nat) : Int) (((k % 6) : Nat) : Int)))), some (az_i (on)), some (az_i (((b : Nat) : Int))), some (az_i (zB S b 0)), x18, x19, x20]) (st2 := [az_i (zlB S ((b : Nat) : Int) 1)]) (s2 := t16) (rfl) ?_
      refine bz_to 0 (pc2 := 585) (lv2 := [some (az_r (0)), x1, x2, x3, x4, x5, x6, x7, x8, x9, some (az_r (34 + e.length)), some (az_r (34 + (e ++ [36]).length)), some (az_i (((k : Nat) : Int))), x13, some (az_i (zqw (zq_way S 1 (((k / 6) : Nat) : Int) (((k % 6) : Nat) : Int)))), some (az_i (on)), some (az_i (((b : Nat) : Int))), some (az_i (zB S b 0)), x18, x19, x20]) (st2 := [az_i (zB S b 1)]) (s2 := t16) (by rw [zlB_v1 (by omega)]; rfl) ?_
      refine bz_to 4 (pc2 := 593) (lv2 := [some (az_r (0)), x1, x2, x3, x4, x5, x6, x7, x8, x9, some (az_r (34 + e.length)), some (az_r (34 + (e ++ [36]).length)), some (az_i (((k : Nat) : Int))), x13, some (az_i (zqw (zq_way S 1 (((k / 6) : Nat) : Int) (((k % 6) : Nat) : Int)))), some (az_i (on)), some (az_i (((b : Nat) : Int))), some (az_i (zB S b 0)), some (az_i (zB S b 1)), x19, x20]) (st2 := [az_i (6), az_i (((k : Nat) : Int)), az_i (zB S b 0)]) (s2 := t16) (rfl) ?_
      refine bz_rem 594 rfl (by constructor <;> omega) (by constructor <;> omega) rfl ?_
      refine bz_to 0 (pc2 := 594) (lv2 := [some (az_r (0)), x1, x2, x3, x4, x5, x6, x7, x8, x9, some (az_r (34 + e.length)), some (az_r (34 + (e ++ [36]).length)), some (az_i (((k : Nat) : Int))), x13, some (az_i (zqw (zq_way S 1 (((k / 6) : Nat) : Int) (((k % 6) : Nat) : Int)))), some (az_i (on)), some (az_i (((b : Nat) : Int))), some (az_i (zB S b 0)), some (az_i (zB S b 1)), x19, x20]) (st2 := [az_i ((((k % 6) : Nat) : Int)), az_i (zB S b 0)]) (s2 := t16) (rfl) ?_
      refine bz_if2 602 597 rfl (by decide) (by first | assumption | exact ⟨by omega, by omega⟩) (by first | assumption | exact ⟨by omega, by omega⟩) (fun h2 => ?_) (fun h2 => ?_)
      · have h2 : ¬ zB S b 0 = (((k % 6) : Nat) : Int) := h2
        refine bz_to 3 (pc2 := 608) (lv2 := [some (az_r (0)), x1, x2, x3, x4, x5, x6, x7, x8, x9, some (az_r (34 + e.length)), some (az_r (34 + (e ++ [36]).length)), some (az_i (((k : Nat) : Int))), x13, some (az_i (zqw (zq_way S 1 (((k / 6) : Nat) : Int) (((k % 6) : Nat) : Int)))), some (az_i (on)), some (az_i (((b : Nat) : Int))), some (az_i (zB S b 0)), some (az_i (zB S b 1)), x19, x20]) (st2 := [az_i (6), az_i (((k : Nat) : Int)), az_i (zB S b 1)]) (s2 := t16) (rfl) ?_
        refine bz_rem 609 rfl (by constructor <;> omega) (by constructor <;> omega) rfl ?_
        refine bz_to 0 (pc2 := 609) (lv2 := [some (az_r (0)), x1, x2, x3, x4, x5, x6, x7, x8, x9, some (az_r (34 + e.length)), some (az_r (34 + (e ++ [36]).length)), some (az_i (((k : Nat) : Int))), x13, some (az_i (zqw (zq_way S 1 (((k / 6) : Nat) : Int) (((k % 6) : Nat) : Int)))), some (az_i (on)), some (az_i (((b : Nat) : Int))), some (az_i (zB S b 0)), some (az_i (zB S b 1)), x19, x20]) (st2 := [az_i ((((k % 6) : Nat) : Int)), az_i (zB S b 1)]) (s2 := t16) (rfl) ?_
        refine bz_if2 617 612 rfl (by decide) (by first | assumption | exact ⟨by omega, by omega⟩) (by first | assumption | exact ⟨by omega, by omega⟩) (fun h3 => ?_) (fun h3 => ?_)
        · have h3 : ¬ zB S b 1 = (((k % 6) : Nat) : Int) := h3
          refine bz_to 2 (pc2 := 620) (lv2 := [some (az_r (0)), x1, x2, x3, x4, x5, x6, x7, x8, x9, some (az_r (34 + e.length)), some (az_r (34 + (e ++ [36]).length)), some (az_i (((k : Nat) : Int))), x13, some (az_i (zqw (zq_way S 1 (((k / 6) : Nat) : Int) (((k % 6) : Nat) : Int)))), some (az_i (on)), some (az_i (((b : Nat) : Int))), some (az_i (zB S b 0)), some (az_i (zB S b 1)), some (az_i (-1)), x20]) (st2 := []) (s2 := t16) (rfl) ?_
          refine lq_620 htx hd H hh8 hk0 hk1 hk HC (b := b) h14 (fun {u} on {x17 x18 x19 x20} y1 y2 y3 y4 y5 y6 => ih b (by omega) (u := u) on x17 x18 x19 x20 (by omega) y1 y2 y3 y4 y5 y6) ⟨hon1, hon2⟩ Y (by omega) ?_ K18 r19 r20
          unfold zac
          rw [if_neg h2, if_neg h3]
        · have h3 : zB S b 1 = (((k % 6) : Nat) : Int) := Decidable.not_not.mp h3
          refine bz_to 3 (pc2 := 620) (lv2 := [some (az_r (0)), x1, x2, x3, x4, x5, x6, x7, x8, x9, some (az_r (34 + e.length)), some (az_r (34 + (e ++ [36]).length)), some (az_i (((k : Nat) : Int))), x13, some (az_i (zqw (zq_way S 1 (((k / 6) : Nat) : Int) (((k % 6) : Nat) : Int)))), some (az_i (on)), some (az_i (((b : Nat) : Int))), some (az_i (zB S b 0)), some (az_i (zB S b 1)), some (az_i (zB S b 0)), x20]) (st2 := []) (s2 := t16) (rfl) ?_
          refine lq_620 htx hd H hh8 hk0 hk1 hk HC (b := b) h14 (fun {u} on {x17 x18 x19 x20} y1 y2 y3 y4 y5 y6 => ih b (by omega) (u := u) on x17 x18 x19 x20 (by omega) y1 y2 y3 y4 y5 y6) ⟨hon1, hon2⟩ Y (by omega) ?_ K18 r19 r20
          unfold zac
          rw [if_neg h2, if_pos h3]
      · have h2 : zB S b 0 = (((k % 6) : Nat) : Int) := Decidable.not_not.mp h2
        refine bz_to 3 (pc2 := 620) (lv2 := [some (az_r (0)), x1, x2, x3, x4, x5, x6, x7, x8, x9, some (az_r (34 + e.length)), some (az_r (34 + (e ++ [36]).length)), some (az_i (((k : Nat) : Int))), x13, some (az_i (zqw (zq_way S 1 (((k / 6) : Nat) : Int) (((k % 6) : Nat) : Int)))), some (az_i (on)), some (az_i (((b : Nat) : Int))), some (az_i (zB S b 0)), some (az_i (zB S b 1)), some (az_i (zB S b 1)), x20]) (st2 := []) (s2 := t16) (rfl) ?_
        refine lq_620 htx hd H hh8 hk0 hk1 hk HC (b := b) h14 (fun {u} on {x17 x18 x19 x20} y1 y2 y3 y4 y5 y6 => ih b (by omega) (u := u) on x17 x18 x19 x20 (by omega) y1 y2 y3 y4 y5 y6) ⟨hon1, hon2⟩ Y (by omega) ?_ K18 r19 r20
        unfold zac
        rw [if_pos h2]
set_option maxRecDepth 100000 in
set_option maxHeartbeats 1600000 in
theorem lq_459 {L : Nat} {xs : Nat → Int32} {tx : Nat → Option String} (htx : ∀ i t, am_sx[i]? = some t → tx i = some t) {d : Nat} (hd : 16 ≤ d) {s : az_S} {S : zR} {h c : Nat} {G : Nat → zR} (H : zkS s S h c G) (hh8 : h ≤ 9000) {e : List Nat} (hk0 : ((e ++ [36]) ++ [36])[e.length]? = some 36) (hk1 : ((e ++ [36]) ++ [36])[(e ++ [36]).length]? = some 36) {Q : az_O → List Nat → az_S → Prop} {N M k : Nat} (hk : k < 36) {x1 x2 x3 x4 x5 x6 x7 x8 x9 x15 x16 x17 x18 x19 x20 : Option az_V} (HC : ∀ {u : az_S} {x13 x14 x15 x16 x17 x18 x19 x20 : Option az_V}, zKx s u (34 + e.length) → u (34 + e.length) = zfw S 0 6 → u (34 + (e ++ [36]).length) = zfw S 1 6 → bz_R L xs tx d am_m_L_isWell 406 [some (az_r (0)), x1, x2, x3, x4, x5, x6, x7, x8, x9, some (az_r (34 + e.length)), some (az_r (34 + (e ++ [36]).length)), some (az_i ((((k + 1) : Nat) : Int))), x13, x14, x15, x16, x17, x18, x19, x20] [] ((e ++ [36]) ++ [36]) u (N) (M) Q)  : ∀ {u : az_S} (K0 : zKx s u (34 + e.length)) (hr0 : u (34 + e.length) = zfw S 0 6) (hr1 : u (34 + (e ++ [36]).length) = zfw S 1 6), bz_R L xs tx d am_m_L_isWell 459 [some (az_r (0)), x1, x2, x3, x4, x5, x6, x7, x8, x9, some (az_r (34 + e.length)), some (az_r (34 + (e ++ [36]).length)), some (az_i (((k : Nat) : Int))), some (az_i (zqw (zq_way S 0 (((k / 6) : Nat) : Int) (((k % 6) : Nat) : Int)))), some (az_i (zqw (zq_way S 1 (((k / 6) : Nat) : Int) (((k % 6) : Nat) : Int)))), x15, x16, x17, x18, x19, x20] [] ((e ++ [36]) ++ [36]) u (N + 5) (M + 30) Q := by
  have hn := zn_le (zkS_R H).2.1
  have hz := zn_eq (zkS_R H).2.1
  have hI := (zkS_R H).2.1
  have hM9 := (zkS_R H).2.2.2
  have hh : h ≤ 10000 := by omega
  have hh9 := hh
  have hu6 : k / 6 < 6 := by omega
  have hv6 : k % 6 < 6 := by omega
  have e36 : 6 * (k / 6) + k % 6 = k := by omega
  have w0 := zqw_way hI hh9 0 hu6 hv6
  have w1 := zqw_way hI hh9 1 hu6 hv6
  have wh := zqw_hang hI hh9 hu6 hv6
  have wg := zhg_r S (k / 6) (k % 6)
  rw [e36] at w0 w1
  intro u K0 hr0 hr1
  refine bz_to 3 (pc2 := 464) (lv2 := [some (az_r (0)), x1, x2, x3, x4, x5, x6, x7, x8, x9, some (az_r (34 + e.length)), some (az_r (34 + (e ++ [36]).length)), some (az_i (((k : Nat) : Int))), some (az_i (zqw (zq_way S 0 (((k / 6) : Nat) : Int) (((k % 6) : Nat) : Int)))), some (az_i (zqw (zq_way S 1 (((k / 6) : Nat) : Int) (((k % 6) : Nat) : Int)))), x15, x16, x17, x18, x19, x20]) (st2 := [az_i (6), az_i (((k : Nat) : Int)), az_r (0)]) (s2 := u) (rfl) ?_
  refine bz_div 465 rfl (by constructor <;> omega) (by constructor <;> omega) rfl ?_
  refine bz_to 0 (pc2 := 465) (lv2 := [some (az_r (0)), x1, x2, x3, x4, x5, x6, x7, x8, x9, some (az_r (34 + e.length)), some (az_r (34 + (e ++ [36]).length)), some (az_i (((k : Nat) : Int))), some (az_i (zqw (zq_way S 0 (((k / 6) : Nat) : Int) (((k % 6) : Nat) : Int)))), some (az_i (zqw (zq_way S 1 (((k / 6) : Nat) : Int) (((k % 6) : Nat) : Int)))), x15, x16, x17, x18, x19, x20]) (st2 := [az_i ((((k / 6) : Nat) : Int)), az_r (0)]) (s2 := u) (rfl) ?_
  refine bz_to 2 (pc2 := 469) (lv2 := [some (az_r (0)), x1, x2, x3, x4, x5, x6, x7, x8, x9, some (az_r (34 + e.length)), some (az_r (34 + (e ++ [36]).length)), some (az_i (((k : Nat) : Int))), some (az_i (zqw (zq_way S 0 (((k / 6) : Nat) : Int) (((k % 6) : Nat) : Int)))), some (az_i (zqw (zq_way S 1 (((k / 6) : Nat) : Int) (((k % 6) : Nat) : Int)))), x15, x16, x17, x18, x19, x20]) (st2 := [az_i (6), az_i (((k : Nat) : Int)), az_i ((((k / 6) : Nat) : Int)), az_r (0)]) (s2 := u) (rfl) ?_
  refine bz_rem 470 rfl (by constructor <;> omega) (by constructor <;> omega) rfl ?_
  refine bz_to 0 (pc2 := 470) (lv2 := [some (az_r (0)), x1, x2, x3, x4, x5, x6, x7, x8, x9, some (az_r (34 + e.length)), some (az_r (34 + (e ++ [36]).length)), some (az_i (((k : Nat) : Int))), some (az_i (zqw (zq_way S 0 (((k / 6) : Nat) : Int) (((k % 6) : Nat) : Int)))), some (az_i (zqw (zq_way S 1 (((k / 6) : Nat) : Int) (((k % 6) : Nat) : Int)))), x15, x16, x17, x18, x19, x20]) (st2 := [az_i ((((k % 6) : Nat) : Int)), az_i ((((k / 6) : Nat) : Int)), az_r (0)]) (s2 := u) (rfl) ?_
  refine bz_w 473 (N1 := 1) (M1 := 6) (N2 := N + 4) (M2 := M + 24) (m2 := am_m_L_cheapest) (as := [az_r (0), az_i ((((k / 6) : Nat) : Int)), az_i ((((k % 6) : Nat) : Int))]) (rest := []) rfl rfl rfl ⟨by omega, by omega⟩ (by omega) (lw_cheapest htx (d := d - 1) (by omega) (zkS_x H K0) (by omega) (Nat.le_refl _) (Nat.le_refl _) (by constructor <;> omega) (by constructor <;> omega)) (fun v9 e2 t21 q22 => ?_) (fun E e2 t q => by cases q.1)
  obtain ⟨qa, qb, q22⟩ := q22
  cases qa
  rw [qb]
  clear qb
  have K23 := zKx_q K0 q22
  have r24 : t21 (34 + e.length) = zfw S 0 6 := (q22.2 _ (by omega)).trans hr0
  have r25 : t21 (34 + (e ++ [36]).length) = zfw S 1 6 := (q22.2 _ (by omega)).trans hr1
  refine bz_to 0 (pc2 := 473) (lv2 := [some (az_r (0)), x1, x2, x3, x4, x5, x6, x7, x8, x9, some (az_r (34 + e.length)), some (az_r (34 + (e ++ [36]).length)), some (az_i (((k : Nat) : Int))), some (az_i (zqw (zq_way S 0 (((k / 6) : Nat) : Int) (((k % 6) : Nat) : Int)))), some (az_i (zqw (zq_way S 1 (((k / 6) : Nat) : Int) (((k % 6) : Nat) : Int)))), x15, x16, x17, x18, x19, x20]) (st2 := [az_i (zqw (zq_way S 0 (((k / 6) : Nat) : Int) (((k % 6) : Nat) : Int)))]) (s2 := t21) (rfl) ?_
  refine bz_to 1 (pc2 := 475) (lv2 := [some (az_r (0)), x1, x2, x3, x4, x5, x6, x7, x8, x9, some (az_r (34 + e.length)), some (az_r (34 + (e ++ [36]).length)), some (az_i (((k : Nat) : Int))), some (az_i (zqw (zq_way S 0 (((k / 6) : Nat) : Int) (((k % 6) : Nat) : Int)))), some (az_i (zqw (zq_way S 1 (((k / 6) : Nat) : Int) (((k % 6) : Nat) : Int)))), x15, x16, x17, x18, x19, x20]) (st2 := [az_i (zqw (zq_way S 0 (((k / 6) : Nat) : Int) (((k % 6) : Nat) : Int))), az_i (zqw (zq_way S 0 (((k / 6) : Nat) : Int) (((k % 6) : Nat) : Int)))]) (s2 := t21) (rfl) ?_
  refine bz_if2 535 478 rfl (by decide) (by first | assumption | exact ⟨by omega, by omega⟩) (by first | assumption | exact ⟨by omega, by omega⟩) (fun h9 => absurd h9 (by unfold az_cnd; intro q; exact q rfl)) (fun _ => ?_)
  refine bz_to 3 (pc2 := 483) (lv2 := [some (az_r (0)), x1, x2, x3, x4, x5, x6, x7, x8, x9, some (az_r (34 + e.length)), some (az_r (34 + (e ++ [36]).length)), some (az_i (((k : Nat) : Int))), some (az_i (zqw (zq_way S 0 (((k / 6) : Nat) : Int) (((k % 6) : Nat) : Int)))), some (az_i (zqw (zq_way S 1 (((k / 6) : Nat) : Int) (((k % 6) : Nat) : Int)))), x15, x16, x17, x18, x19, x20]) (st2 := [az_i (6), az_i (((k : Nat) : Int)), az_r (0)]) (s2 := t21) (rfl) ?_
  refine bz_div 484 rfl (by constructor <;> omega) (by constructor <;> omega) rfl ?_
  refine bz_to 0 (pc2 := 484) (lv2 := [some (az_r (0)), x1, x2, x3, x4, x5, x6, x7, x8, x9, some (az_r (34 + e.length)), some (az_r (34 + (e ++ [36]).length)), some (az_i (((k : Nat) : Int))), some (az_i (zqw (zq_way S 0 (((k / 6) : Nat) : Int) (((k % 6) : Nat) : Int)))), some (az_i (zqw (zq_way S 1 (((k / 6) : Nat) : Int) (((k % 6) : Nat) : Int)))), x15, x16, x17, x18, x19, x20]) (st2 := [az_i ((((k / 6) : Nat) : Int)), az_r (0)]) (s2 := t21) (rfl) ?_
  refine bz_to 2 (pc2 := 488) (lv2 := [some (az_r (0)), x1, x2, x3, x4, x5, x6, x7, x8, x9, some (az_r (34 + e.length)), some (az_r (34 + (e ++ [36]).length)), some (az_i (((k : Nat) : Int))), some (az_i (zqw (zq_way S 0 (((k / 6) : Nat) : Int) (((k % 6) : Nat) : Int)))), some (az_i (zqw (zq_way S 1 (((k / 6) : Nat) : Int) (((k % 6) : Nat) : Int)))), x15, x16, x17, x18, x19, x20]) (st2 := [az_i (6), az_i (((k : Nat) : Int)), az_i ((((k / 6) : Nat) : Int)), az_r (0)]) (s2 := t21) (rfl) ?_
  refine bz_rem 489 rfl (by constructor <;> omega) (by constructor <;> omega) rfl ?_
  refine bz_to 0 (pc2 := 489) (lv2 := [some (az_r (0)), x1, x2, x3, x4, x5, x6, x7, x8, x9, some (az_r (34 + e.length)), some (az_r (34 + (e ++ [36]).length)), some (az_i (((k : Nat) : Int))), some (az_i (zqw (zq_way S 0 (((k / 6) : Nat) : Int) (((k % 6) : Nat) : Int)))), some (az_i (zqw (zq_way S 1 (((k / 6) : Nat) : Int) (((k % 6) : Nat) : Int)))), x15, x16, x17, x18, x19, x20]) (st2 := [az_i ((((k % 6) : Nat) : Int)), az_i ((((k / 6) : Nat) : Int)), az_r (0)]) (s2 := t21) (rfl) ?_
  refine bz_w 492 (N1 := 1) (M1 := 6) (N2 := N + 3) (M2 := M + 18) (m2 := am_m_L_cheapestAgain) (as := [az_r (0), az_i ((((k / 6) : Nat) : Int)), az_i ((((k % 6) : Nat) : Int))]) (rest := []) rfl rfl rfl ⟨by omega, by omega⟩ (by omega) (lw_cheapestAgain htx (d := d - 1) (by omega) (zkS_x H K23) (by omega) (Nat.le_refl _) (Nat.le_refl _) (by constructor <;> omega) (by constructor <;> omega)) (fun v9 e2 t26 q27 => ?_) (fun E e2 t q => by cases q.1)
  obtain ⟨qa, qb, q27⟩ := q27
  cases qa
  rw [qb]
  clear qb
  have K28 := zKx_q K23 q27
  have r29 : t26 (34 + e.length) = zfw S 0 6 := (q27.2 _ (by omega)).trans r24
  have r30 : t26 (34 + (e ++ [36]).length) = zfw S 1 6 := (q27.2 _ (by omega)).trans r25
  refine bz_to 0 (pc2 := 492) (lv2 := [some (az_r (0)), x1, x2, x3, x4, x5, x6, x7, x8, x9, some (az_r (34 + e.length)), some (az_r (34 + (e ++ [36]).length)), some (az_i (((k : Nat) : Int))), some (az_i (zqw (zq_way S 0 (((k / 6) : Nat) : Int) (((k % 6) : Nat) : Int)))), some (az_i (zqw (zq_way S 1 (((k / 6) : Nat) : Int) (((k % 6) : Nat) : Int)))), x15, x16, x17, x18, x19, x20]) (st2 := [az_i (zqw (zq_way S 0 (((k / 6) : Nat) : Int) (((k % 6) : Nat) : Int)))]) (s2 := t26) (rfl) ?_
  refine bz_to 1 (pc2 := 494) (lv2 := [some (az_r (0)), x1, x2, x3, x4, x5, x6, x7, x8, x9, some (az_r (34 + e.length)), some (az_r (34 + (e ++ [36]).length)), some (az_i (((k : Nat) : Int))), some (az_i (zqw (zq_way S 0 (((k / 6) : Nat) : Int) (((k % 6) : Nat) : Int)))), some (az_i (zqw (zq_way S 1 (((k / 6) : Nat) : Int) (((k % 6) : Nat) : Int)))), x15, x16, x17, x18, x19, x20]) (st2 := [az_i (zqw (zq_way S 0 (((k / 6) : Nat) : Int) (((k % 6) : Nat) : Int))), az_i (zqw (zq_way S 0 (((k / 6) : Nat) : Int) (((k % 6) : Nat) : Int)))]) (s2 := t26) (rfl) ?_
  refine bz_if2 535 497 rfl (by decide) (by first | assumption | exact ⟨by omega, by omega⟩) (by first | assumption | exact ⟨by omega, by omega⟩) (fun h9 => absurd h9 (by unfold az_cnd; intro q; exact q rfl)) (fun _ => ?_)
  refine bz_to 3 (pc2 := 502) (lv2 := [some (az_r (0)), x1, x2, x3, x4, x5, x6, x7, x8, x9, some (az_r (34 + e.length)), some (az_r (34 + (e ++ [36]).length)), some (az_i (((k : Nat) : Int))), some (az_i (zqw (zq_way S 0 (((k / 6) : Nat) : Int) (((k % 6) : Nat) : Int)))), some (az_i (zqw (zq_way S 1 (((k / 6) : Nat) : Int) (((k % 6) : Nat) : Int)))), x15, x16, x17, x18, x19, x20]) (st2 := [az_i (6), az_i (((k : Nat) : Int)), az_r (0)]) (s2 := t26) (rfl) ?_
  refine bz_div 503 rfl (by constructor <;> omega) (by constructor <;> omega) rfl ?_
  refine bz_to 0 (pc2 := 503) (lv2 := [some (az_r (0)), x1, x2, x3, x4, x5, x6, x7, x8, x9, some (az_r (34 + e.length)), some (az_r (34 + (e ++ [36]).length)), some (az_i (((k : Nat) : Int))), some (az_i (zqw (zq_way S 0 (((k / 6) : Nat) : Int) (((k % 6) : Nat) : Int)))), some (az_i (zqw (zq_way S 1 (((k / 6) : Nat) : Int) (((k % 6) : Nat) : Int)))), x15, x16, x17, x18, x19, x20]) (st2 := [az_i ((((k / 6) : Nat) : Int)), az_r (0)]) (s2 := t26) (rfl) ?_
  refine bz_to 2 (pc2 := 507) (lv2 := [some (az_r (0)), x1, x2, x3, x4, x5, x6, x7, x8, x9, some (az_r (34 + e.length)), some (az_r (34 + (e ++ [36]).length)), some (az_i (((k : Nat) : Int))), some (az_i (zqw (zq_way S 0 (((k / 6) : Nat) : Int) (((k % 6) : Nat) : Int)))), some (az_i (zqw (zq_way S 1 (((k / 6) : Nat) : Int) (((k % 6) : Nat) : Int)))), x15, x16, x17, x18, x19, x20]) (st2 := [az_i (6), az_i (((k : Nat) : Int)), az_i ((((k / 6) : Nat) : Int)), az_r (0)]) (s2 := t26) (rfl) ?_
  refine bz_rem 508 rfl (by constructor <;> omega) (by constructor <;> omega) rfl ?_
  refine bz_to 0 (pc2 := 508) (lv2 := [some (az_r (0)), x1, x2, x3, x4, x5, x6, x7, x8, x9, some (az_r (34 + e.length)), some (az_r (34 + (e ++ [36]).length)), some (az_i (((k : Nat) : Int))), some (az_i (zqw (zq_way S 0 (((k / 6) : Nat) : Int) (((k % 6) : Nat) : Int)))), some (az_i (zqw (zq_way S 1 (((k / 6) : Nat) : Int) (((k % 6) : Nat) : Int)))), x15, x16, x17, x18, x19, x20]) (st2 := [az_i ((((k % 6) : Nat) : Int)), az_i ((((k / 6) : Nat) : Int)), az_r (0)]) (s2 := t26) (rfl) ?_
  refine bz_w 511 (N1 := 1) (M1 := 6) (N2 := N + 2) (M2 := M + 12) (m2 := am_m_L_fastest) (as := [az_r (0), az_i ((((k / 6) : Nat) : Int)), az_i ((((k % 6) : Nat) : Int))]) (rest := []) rfl rfl rfl ⟨by omega, by omega⟩ (by omega) (lw_fastest htx (d := d - 1) (by omega) (zkS_x H K28) (by omega) (Nat.le_refl _) (Nat.le_refl _) (by constructor <;> omega) (by constructor <;> omega)) (fun v9 e2 t31 q32 => ?_) (fun E e2 t q => by cases q.1)
  obtain ⟨qa, qb, q32⟩ := q32
  cases qa
  rw [qb]
  clear qb
  have K33 := zKx_q K28 q32
  have r34 : t31 (34 + e.length) = zfw S 0 6 := (q32.2 _ (by omega)).trans r29
  have r35 : t31 (34 + (e ++ [36]).length) = zfw S 1 6 := (q32.2 _ (by omega)).trans r30
  refine bz_to 0 (pc2 := 511) (lv2 := [some (az_r (0)), x1, x2, x3, x4, x5, x6, x7, x8, x9, some (az_r (34 + e.length)), some (az_r (34 + (e ++ [36]).length)), some (az_i (((k : Nat) : Int))), some (az_i (zqw (zq_way S 0 (((k / 6) : Nat) : Int) (((k % 6) : Nat) : Int)))), some (az_i (zqw (zq_way S 1 (((k / 6) : Nat) : Int) (((k % 6) : Nat) : Int)))), x15, x16, x17, x18, x19, x20]) (st2 := [az_i (zqw (zq_way S 1 (((k / 6) : Nat) : Int) (((k % 6) : Nat) : Int)))]) (s2 := t31) (rfl) ?_
  refine bz_to 1 (pc2 := 513) (lv2 := [some (az_r (0)), x1, x2, x3, x4, x5, x6, x7, x8, x9, some (az_r (34 + e.length)), some (az_r (34 + (e ++ [36]).length)), some (az_i (((k : Nat) : Int))), some (az_i (zqw (zq_way S 0 (((k / 6) : Nat) : Int) (((k % 6) : Nat) : Int)))), some (az_i (zqw (zq_way S 1 (((k / 6) : Nat) : Int) (((k % 6) : Nat) : Int)))), x15, x16, x17, x18, x19, x20]) (st2 := [az_i (zqw (zq_way S 1 (((k / 6) : Nat) : Int) (((k % 6) : Nat) : Int))), az_i (zqw (zq_way S 1 (((k / 6) : Nat) : Int) (((k % 6) : Nat) : Int)))]) (s2 := t31) (rfl) ?_
  refine bz_if2 535 516 rfl (by decide) (by first | assumption | exact ⟨by omega, by omega⟩) (by first | assumption | exact ⟨by omega, by omega⟩) (fun h9 => absurd h9 (by unfold az_cnd; intro q; exact q rfl)) (fun _ => ?_)
  refine bz_to 3 (pc2 := 521) (lv2 := [some (az_r (0)), x1, x2, x3, x4, x5, x6, x7, x8, x9, some (az_r (34 + e.length)), some (az_r (34 + (e ++ [36]).length)), some (az_i (((k : Nat) : Int))), some (az_i (zqw (zq_way S 0 (((k / 6) : Nat) : Int) (((k % 6) : Nat) : Int)))), some (az_i (zqw (zq_way S 1 (((k / 6) : Nat) : Int) (((k % 6) : Nat) : Int)))), x15, x16, x17, x18, x19, x20]) (st2 := [az_i (6), az_i (((k : Nat) : Int)), az_r (0)]) (s2 := t31) (rfl) ?_
  refine bz_div 522 rfl (by constructor <;> omega) (by constructor <;> omega) rfl ?_
  refine bz_to 0 (pc2 := 522) (lv2 := [some (az_r (0)), x1, x2, x3, x4, x5, x6, x7, x8, x9, some (az_r (34 + e.length)), some (az_r (34 + (e ++ [36]).length)), some (az_i (((k : Nat) : Int))), some (az_i (zqw (zq_way S 0 (((k / 6) : Nat) : Int) (((k % 6) : Nat) : Int)))), some (az_i (zqw (zq_way S 1 (((k / 6) : Nat) : Int) (((k % 6) : Nat) : Int)))), x15, x16, x17, x18, x19, x20]) (st2 := [az_i ((((k / 6) : Nat) : Int)), az_r (0)]) (s2 := t31) (rfl) ?_
  refine bz_to 2 (pc2 := 526) (lv2 := [some (az_r (0)), x1, x2, x3, x4, x5, x6, x7, x8, x9, some (az_r (34 + e.length)), some (az_r (34 + (e ++ [36]).length)), some (az_i (((k : Nat) : Int))), some (az_i (zqw (zq_way S 0 (((k / 6) : Nat) : Int) (((k % 6) : Nat) : Int)))), some (az_i (zqw (zq_way S 1 (((k / 6) : Nat) : Int) (((k % 6) : Nat) : Int)))), x15, x16, x17, x18, x19, x20]) (st2 := [az_i (6), az_i (((k : Nat) : Int)), az_i ((((k / 6) : Nat) : Int)), az_r (0)]) (s2 := t31) (rfl) ?_
  refine bz_rem 527 rfl (by constructor <;> omega) (by constructor <;> omega) rfl ?_
  refine bz_to 0 (pc2 := 527) (lv2 := [some (az_r (0)), x1, x2, x3, x4, x5, x6, x7, x8, x9, some (az_r (34 + e.length)), some (az_r (34 + (e ++ [36]).length)), some (az_i (((k : Nat) : Int))), some (az_i (zqw (zq_way S 0 (((k / 6) : Nat) : Int) (((k % 6) : Nat) : Int)))), some (az_i (zqw (zq_way S 1 (((k / 6) : Nat) : Int) (((k % 6) : Nat) : Int)))), x15, x16, x17, x18, x19, x20]) (st2 := [az_i ((((k % 6) : Nat) : Int)), az_i ((((k / 6) : Nat) : Int)), az_r (0)]) (s2 := t31) (rfl) ?_
  refine bz_w 530 (N1 := 1) (M1 := 6) (N2 := N + 1) (M2 := M + 6) (m2 := am_m_L_fastestAgain) (as := [az_r (0), az_i ((((k / 6) : Nat) : Int)), az_i ((((k % 6) : Nat) : Int))]) (rest := []) rfl rfl rfl ⟨by omega, by omega⟩ (by omega) (lw_fastestAgain htx (d := d - 1) (by omega) (zkS_x H K33) (by omega) (Nat.le_refl _) (Nat.le_refl _) (by constructor <;> omega) (by constructor <;> omega)) (fun v9 e2 t36 q37 => ?_) (fun E e2 t q => by cases q.1)
  obtain ⟨qa, qb, q37⟩ := q37
  cases qa
  rw [qb]
  clear qb
  have K38 := zKx_q K33 q37
  have r39 : t36 (34 + e.length) = zfw S 0 6 := (q37.2 _ (by omega)).trans r34
  have r40 : t36 (34 + (e ++ [36]).length) = zfw S 1 6 := (q37.2 _ (by omega)).trans r35
  refine bz_to 0 (pc2 := 530) (lv2 := [some (az_r (0)), x1, x2, x3, x4, x5, x6, x7, x8, x9, some (az_r (34 + e.length)), some (az_r (34 + (e ++ [36]).length)), some (az_i (((k : Nat) : Int))), some (az_i (zqw (zq_way S 0 (((k / 6) : Nat) : Int) (((k % 6) : Nat) : Int)))), some (az_i (zqw (zq_way S 1 (((k / 6) : Nat) : Int) (((k % 6) : Nat) : Int)))), x15, x16, x17, x18, x19, x20]) (st2 := [az_i (zqw (zq_way S 1 (((k / 6) : Nat) : Int) (((k % 6) : Nat) : Int)))]) (s2 := t36) (rfl) ?_
  refine bz_to 1 (pc2 := 532) (lv2 := [some (az_r (0)), x1, x2, x3, x4, x5, x6, x7, x8, x9, some (az_r (34 + e.length)), some (az_r (34 + (e ++ [36]).length)), some (az_i (((k : Nat) : Int))), some (az_i (zqw (zq_way S 0 (((k / 6) : Nat) : Int) (((k % 6) : Nat) : Int)))), some (az_i (zqw (zq_way S 1 (((k / 6) : Nat) : Int) (((k % 6) : Nat) : Int)))), x15, x16, x17, x18, x19, x20]) (st2 := [az_i (zqw (zq_way S 1 (((k / 6) : Nat) : Int) (((k % 6) : Nat) : Int))), az_i (zqw (zq_way S 1 (((k / 6) : Nat) : Int) (((k % 6) : Nat) : Int)))]) (s2 := t36) (rfl) ?_
  refine bz_if2 537 535 rfl (by decide) (by first | assumption | exact ⟨by omega, by omega⟩) (by first | assumption | exact ⟨by omega, by omega⟩) (fun _ => ?_) (fun h9 => absurd (show az_cnd _ _ _ by unfold az_cnd; rfl) h9)
  refine bz_to 1 (pc2 := 539) (lv2 := [some (az_r (0)), x1, x2, x3, x4, x5, x6, x7, x8, x9, some (az_r (34 + e.length)), some (az_r (34 + (e ++ [36]).length)), some (az_i (((k : Nat) : Int))), some (az_i (zqw (zq_way S 0 (((k / 6) : Nat) : Int) (((k % 6) : Nat) : Int)))), some (az_i (zqw (zq_way S 1 (((k / 6) : Nat) : Int) (((k % 6) : Nat) : Int)))), x15, x16, x17, x18, x19, x20]) (st2 := [az_i (zqw (zq_way S 1 (((k / 6) : Nat) : Int) (((k % 6) : Nat) : Int)))]) (s2 := t36) (rfl) ?_
  refine bz_ifc 547 542 rfl (by decide) (by first | assumption | exact ⟨by omega, by omega⟩) (fun h1 => ?_) (fun h1 => ?_)
  · have h1 : 0 ≤ zqw (zq_way S 1 (((k / 6) : Nat) : Int) (((k % 6) : Nat) : Int)) := h1
    refine bz_to 4 (pc2 := 552) (lv2 := [some (az_r (0)), x1, x2, x3, x4, x5, x6, x7, x8, x9, some (az_r (34 + e.length)), some (az_r (34 + (e ++ [36]).length)), some (az_i (((k : Nat) : Int))), some (az_i (zqw (zq_way S 0 (((k / 6) : Nat) : Int) (((k % 6) : Nat) : Int)))), some (az_i (zqw (zq_way S 1 (((k / 6) : Nat) : Int) (((k % 6) : Nat) : Int)))), some (az_i (-1)), x16, x17, x18, x19, x20]) (st2 := [az_i (0), az_r (0)]) (s2 := t36) (rfl) ?_
    refine bz_q (v := zlA S c 0) (m2 := am_m_X9_account) (as := [az_r (0), az_i (0)]) (rest := []) htx 555 rfl rfl rfl (by omega) (lk_account (zkS_x H K38) hh (by omega) (by constructor <;> omega)) (fun t41 q42 => ?_)
    have K43 := zKx_q K38 q42
    have r44 : t41 (34 + e.length) = zfw S 0 6 := (q42.2 _ (by omega)).trans r39
    have r45 : t41 (34 + (e ++ [36]).length) = zfw S 1 6 := (q42.2 _ (by omega)).trans r40
    refine bz_to 0 (pc2 := 555) (lv2 := [some (az_r (0)), x1, x2, x3, x4, x5, x6, x7, x8, x9, some (az_r (34 + e.length)), some (az_r (34 + (e ++ [36]).length)), some (az_i (((k : Nat) : Int))), some (az_i (zqw (zq_way S 0 (((k / 6) : Nat) : Int) (((k % 6) : Nat) : Int)))), some (az_i (zqw (zq_way S 1 (((k / 6) : Nat) : Int) (((k % 6) : Nat) : Int)))), some (az_i (-1)), x16, x17, x18, x19, x20]) (st2 := [az_i (zlA S c 0)]) (s2 := t41) (rfl) ?_
    refine bz_to 0 (pc2 := 555) (lv2 := [some (az_r (0)), x1, x2, x3, x4, x5, x6, x7, x8, x9, some (az_r (34 + e.length)), some (az_r (34 + (e ++ [36]).length)), some (az_i (((k : Nat) : Int))), some (az_i (zqw (zq_way S 0 (((k / 6) : Nat) : Int) (((k % 6) : Nat) : Int)))), some (az_i (zqw (zq_way S 1 (((k / 6) : Nat) : Int) (((k % 6) : Nat) : Int)))), some (az_i (-1)), x16, x17, x18, x19, x20]) (st2 := [az_i (((zn S 0 : Nat) : Int))]) (s2 := t41) (rfl) ?_
    refine bz_to 3 (pc2 := 559) (lv2 := [some (az_r (0)), x1, x2, x3, x4, x5, x6, x7, x8, x9, some (az_r (34 + e.length)), some (az_r (34 + (e ++ [36]).length)), some (az_i (((k : Nat) : Int))), some (az_i (zqw (zq_way S 0 (((k / 6) : Nat) : Int) (((k % 6) : Nat) : Int)))), some (az_i (zqw (zq_way S 1 (((k / 6) : Nat) : Int) (((k % 6) : Nat) : Int)))), some (az_i (-1)), some (az_i ((((zn S 0 : Nat) : Int) - 1))), x17, x18, x19, x20]) (st2 := []) (s2 := t41) (rfl) ?_
    by_cases h14 : 0 < zqw (zq_way S 1 (((k / 6) : Nat) : Int) (((k % 6) : Nat) : Int))
    · exact lq_559 htx hd H hh8 hk0 hk1 hk HC h14 (zn S 0) (-1) _ _ _ _ (Nat.le_refl _) (zhY_0 _ _ _) (by decide) (by decide) K43 r44 r45
    · have e0 : zqw (zq_way S 1 (((k / 6) : Nat) : Int) (((k % 6) : Nat) : Int)) = 0 := by omega
      have e15 : (-1 : Int) = zqw (zq_hangs S (((k / 6) : Nat) : Int) (((k % 6) : Nat) : Int)) := by rw [wh.1, if_neg (by omega)]; exact (zhg_z hI hh9 hu6 ((wh.2 (by omega)).symm.trans e0)).symm
      refine bz_to 1 (pc2 := 561) (lv2 := [some (az_r (0)), x1, x2, x3, x4, x5, x6, x7, x8, x9, some (az_r (34 + e.length)), some (az_r (34 + (e ++ [36]).length)), some (az_i (((k : Nat) : Int))), some (az_i (zqw (zq_way S 0 (((k / 6) : Nat) : Int) (((k % 6) : Nat) : Int)))), some (az_i (zqw (zq_way S 1 (((k / 6) : Nat) : Int) (((k % 6) : Nat) : Int)))), some (az_i (-1)), some (az_i ((((zn S 0 : Nat) : Int) - 1))), x17, x18, x19, x20]) (st2 := [az_i ((((zn S 0 : Nat) : Int) - 1))]) (s2 := t41) (rfl) ?_
      refine bz_ifc 690 564 rfl (by decide) (by first | assumption | exact ⟨by omega, by omega⟩) (fun h8 => ?_) (fun h8 => ?_)
      · have h8 : (((zn S 0 : Nat) : Int) - 1) < 0 := h8
        rw [e15]
        exact lq_690 htx hd H hh8 hk0 hk1 hk HC K43 r44 r45
      · have h8 : ¬ ((((zn S 0 : Nat) : Int) - 1) < 0) := h8
        refine bz_to 1 (pc2 := 566) (lv2 := [some (az_r (0)), x1, x2, x3, x4, x5, x6, x7, x8, x9, some (az_r (34 + e.length)), some (az_r (34 + (e ++ [36]).length)), some (az_i (((k : Nat) : Int))), some (az_i (zqw (zq_way S 0 (((k / 6) : Nat) : Int) (((k % 6) : Nat) : Int)))), some (az_i (zqw (zq_way S 1 (((k / 6) : Nat) : Int) (((k % 6) : Nat) : Int)))), some (az_i (-1)), some (az_i ((((zn S 0 : Nat) : Int) - 1))), x17, x18, x19, x20]) (st2 := [az_i (zqw (zq_way S 1 (((k / 6) : Nat) : Int) (((k % 6) : Nat) : Int)))]) (s2 := t41) (rfl) ?_
        refine bz_ifc 690 569 rfl (by decide) (by first | assumption | exact ⟨by omega, by omega⟩) (fun _ => ?_) (fun h9 => absurd (show az_cnd _ _ _ by unfold az_cnd; omega) h9)
        rw [e15]
        exact lq_690 htx hd H hh8 hk0 hk1 hk HC K43 r44 r45
  · have h1 : ¬ (0 ≤ zqw (zq_way S 1 (((k / 6) : Nat) : Int) (((k % 6) : Nat) : Int))) := h1
    refine bz_to 5 (pc2 := 552) (lv2 := [some (az_r (0)), x1, x2, x3, x4, x5, x6, x7, x8, x9, some (az_r (34 + e.length)), some (az_r (34 + (e ++ [36]).length)), some (az_i (((k : Nat) : Int))), some (az_i (zqw (zq_way S 0 (((k / 6) : Nat) : Int) (((k % 6) : Nat) : Int)))), some (az_i (zqw (zq_way S 1 (((k / 6) : Nat) : Int) (((k % 6) : Nat) : Int)))), some (az_i (-900002)), x16, x17, x18, x19, x20]) (st2 := [az_i (0), az_r (0)]) (s2 := t36) (rfl) ?_
    refine bz_q (v := zlA S c 0) (m2 := am_m_X9_account) (as := [az_r (0), az_i (0)]) (rest := []) htx 555 rfl rfl rfl (by omega) (lk_account (zkS_x H K38) hh (by omega) (by constructor <;> omega)) (fun t46 q47 => ?_)
    have K48 := zKx_q K38 q47
    have r49 : t46 (34 + e.length) = zfw S 0 6 := (q47.2 _ (by omega)).trans r39
    have r50 : t46 (34 + (e ++ [36]).length) = zfw S 1 6 := (q47.2 _ (by omega)).trans r40
    refine bz_to 0 (pc2 := 555) (lv2 := [some (az_r (0)), x1, x2, x3, x4, x5, x6, x7, x8, x9, some (az_r (34 + e.length)), some (az_r (34 + (e ++ [36]).length)), some (az_i (((k : Nat) : Int))), some (az_i (zqw (zq_way S 0 (((k / 6) : Nat) : Int) (((k % 6) : Nat) : Int)))), some (az_i (zqw (zq_way S 1 (((k / 6) : Nat) : Int) (((k % 6) : Nat) : Int)))), some (az_i (-900002)), x16, x17, x18, x19, x20]) (st2 := [az_i (zlA S c 0)]) (s2 := t46) (rfl) ?_
    refine bz_to 0 (pc2 := 555) (lv2 := [some (az_r (0)), x1, x2, x3, x4, x5, x6, x7, x8, x9, some (az_r (34 + e.length)), some (az_r (34 + (e ++ [36]).length)), some (az_i (((k : Nat) : Int))), some (az_i (zqw (zq_way S 0 (((k / 6) : Nat) : Int) (((k % 6) : Nat) : Int)))), some (az_i (zqw (zq_way S 1 (((k / 6) : Nat) : Int) (((k % 6) : Nat) : Int)))), some (az_i (-900002)), x16, x17, x18, x19, x20]) (st2 := [az_i (((zn S 0 : Nat) : Int))]) (s2 := t46) (rfl) ?_
    refine bz_to 3 (pc2 := 559) (lv2 := [some (az_r (0)), x1, x2, x3, x4, x5, x6, x7, x8, x9, some (az_r (34 + e.length)), some (az_r (34 + (e ++ [36]).length)), some (az_i (((k : Nat) : Int))), some (az_i (zqw (zq_way S 0 (((k / 6) : Nat) : Int) (((k % 6) : Nat) : Int)))), some (az_i (zqw (zq_way S 1 (((k / 6) : Nat) : Int) (((k % 6) : Nat) : Int)))), some (az_i (-900002)), some (az_i ((((zn S 0 : Nat) : Int) - 1))), x17, x18, x19, x20]) (st2 := []) (s2 := t46) (rfl) ?_
    have e15 : (-900002 : Int) = zqw (zq_hangs S (((k / 6) : Nat) : Int) (((k % 6) : Nat) : Int)) := by rw [wh.1, if_pos (by omega)]
    refine bz_to 1 (pc2 := 561) (lv2 := [some (az_r (0)), x1, x2, x3, x4, x5, x6, x7, x8, x9, some (az_r (34 + e.length)), some (az_r (34 + (e ++ [36]).length)), some (az_i (((k : Nat) : Int))), some (az_i (zqw (zq_way S 0 (((k / 6) : Nat) : Int) (((k % 6) : Nat) : Int)))), some (az_i (zqw (zq_way S 1 (((k / 6) : Nat) : Int) (((k % 6) : Nat) : Int)))), some (az_i (-900002)), some (az_i ((((zn S 0 : Nat) : Int) - 1))), x17, x18, x19, x20]) (st2 := [az_i ((((zn S 0 : Nat) : Int) - 1))]) (s2 := t46) (rfl) ?_
    refine bz_ifc 690 564 rfl (by decide) (by first | assumption | exact ⟨by omega, by omega⟩) (fun h8 => ?_) (fun h8 => ?_)
    · have h8 : (((zn S 0 : Nat) : Int) - 1) < 0 := h8
      rw [e15]
      exact lq_690 htx hd H hh8 hk0 hk1 hk HC K48 r49 r50
    · have h8 : ¬ ((((zn S 0 : Nat) : Int) - 1) < 0) := h8
      refine bz_to 1 (pc2 := 566) (lv2 := [some (az_r (0)), x1, x2, x3, x4, x5, x6, x7, x8, x9, some (az_r (34 + e.length)), some (az_r (34 + (e ++ [36]).length)), some (az_i (((k : Nat) : Int))), some (az_i (zqw (zq_way S 0 (((k / 6) : Nat) : Int) (((k % 6) : Nat) : Int)))), some (az_i (zqw (zq_way S 1 (((k / 6) : Nat) : Int) (((k % 6) : Nat) : Int)))), some (az_i (-900002)), some (az_i ((((zn S 0 : Nat) : Int) - 1))), x17, x18, x19, x20]) (st2 := [az_i (zqw (zq_way S 1 (((k / 6) : Nat) : Int) (((k % 6) : Nat) : Int)))]) (s2 := t46) (rfl) ?_
      refine bz_ifc 690 569 rfl (by decide) (by first | assumption | exact ⟨by omega, by omega⟩) (fun _ => ?_) (fun h9 => absurd (show az_cnd _ _ _ by unfold az_cnd; omega) h9)
      rw [e15]
      exact lq_690 htx hd H hh8 hk0 hk1 hk HC K48 r49 r50
set_option maxRecDepth 100000 in
set_option maxHeartbeats 1600000 in
theorem lq_436 {L : Nat} {xs : Nat → Int32} {tx : Nat → Option String} (htx : ∀ i t, am_sx[i]? = some t → tx i = some t) {d : Nat} (hd : 16 ≤ d) {s : az_S} {S : zR} {h c : Nat} {G : Nat → zR} (H : zkS s S h c G) (hh8 : h ≤ 9000) {e : List Nat} (hk0 : ((e ++ [36]) ++ [36])[e.length]? = some 36) (hk1 : ((e ++ [36]) ++ [36])[(e ++ [36]).length]? = some 36) {Q : az_O → List Nat → az_S → Prop} {N M k : Nat} (hk : k < 36) {x1 x2 x3 x4 x5 x6 x7 x8 x9 x14 x15 x16 x17 x18 x19 x20 : Option az_V} (HC : ∀ {u : az_S} {x13 x14 x15 x16 x17 x18 x19 x20 : Option az_V}, zKx s u (34 + e.length) → u (34 + e.length) = zfw S 0 6 → u (34 + (e ++ [36]).length) = zfw S 1 6 → bz_R L xs tx d am_m_L_isWell 406 [some (az_r (0)), x1, x2, x3, x4, x5, x6, x7, x8, x9, some (az_r (34 + e.length)), some (az_r (34 + (e ++ [36]).length)), some (az_i ((((k + 1) : Nat) : Int))), x13, x14, x15, x16, x17, x18, x19, x20] [] ((e ++ [36]) ++ [36]) u (N) (M) Q)  : ∀ {u : az_S} (K0 : zKx s u (34 + e.length)) (hr0 : u (34 + e.length) = zfw S 0 6) (hr1 : u (34 + (e ++ [36]).length) = zfw S 1 6), bz_R L xs tx d am_m_L_isWell 436 [some (az_r (0)), x1, x2, x3, x4, x5, x6, x7, x8, x9, some (az_r (34 + e.length)), some (az_r (34 + (e ++ [36]).length)), some (az_i (((k : Nat) : Int))), some (az_i (zqw (zq_way S 0 (((k / 6) : Nat) : Int) (((k % 6) : Nat) : Int)))), x14, x15, x16, x17, x18, x19, x20] [] ((e ++ [36]) ++ [36]) u (N + 5) (M + 30) Q := by
  have hn := zn_le (zkS_R H).2.1
  have hz := zn_eq (zkS_R H).2.1
  have hI := (zkS_R H).2.1
  have hM9 := (zkS_R H).2.2.2
  have hh : h ≤ 10000 := by omega
  have hh9 := hh
  have hu6 : k / 6 < 6 := by omega
  have hv6 : k % 6 < 6 := by omega
  have e36 : 6 * (k / 6) + k % 6 = k := by omega
  have w0 := zqw_way hI hh9 0 hu6 hv6
  have w1 := zqw_way hI hh9 1 hu6 hv6
  have wh := zqw_hang hI hh9 hu6 hv6
  have wg := zhg_r S (k / 6) (k % 6)
  rw [e36] at w0 w1
  intro u K0 hr0 hr1
  have hwr := (zfw_I hI hh9 1 6 (Nat.le_refl _)).1.2.1 k hk
  refine bz_to 2 (pc2 := 440) (lv2 := [some (az_r (0)), x1, x2, x3, x4, x5, x6, x7, x8, x9, some (az_r (34 + e.length)), some (az_r (34 + (e ++ [36]).length)), some (az_i (((k : Nat) : Int))), some (az_i (zqw (zq_way S 0 (((k / 6) : Nat) : Int) (((k % 6) : Nat) : Int)))), x14, x15, x16, x17, x18, x19, x20]) (st2 := [az_i (((k : Nat) : Int)), az_r (34 + (e ++ [36]).length)]) (s2 := u) (rfl) ?_
  refine bz_ld 441 rfl hk1 (by constructor <;> omega) ⟨by decide, rfl⟩ ?_
  refine bz_to 0 (pc2 := 441) (lv2 := [some (az_r (0)), x1, x2, x3, x4, x5, x6, x7, x8, x9, some (az_r (34 + e.length)), some (az_r (34 + (e ++ [36]).length)), some (az_i (((k : Nat) : Int))), some (az_i (zqw (zq_way S 0 (((k / 6) : Nat) : Int) (((k % 6) : Nat) : Int)))), x14, x15, x16, x17, x18, x19, x20]) (st2 := [az_i (u (34 + (e ++ [36]).length) k)]) (s2 := u) (rfl) ?_
  refine bz_to 0 (pc2 := 441) (lv2 := [some (az_r (0)), x1, x2, x3, x4, x5, x6, x7, x8, x9, some (az_r (34 + e.length)), some (az_r (34 + (e ++ [36]).length)), some (az_i (((k : Nat) : Int))), some (az_i (zqw (zq_way S 0 (((k / 6) : Nat) : Int) (((k % 6) : Nat) : Int)))), x14, x15, x16, x17, x18, x19, x20]) (st2 := [az_i ((zfw S 1 6) k)]) (s2 := u) (by rw [hr1]; rfl) ?_
  refine bz_to 1 (pc2 := 444) (lv2 := [some (az_r (0)), x1, x2, x3, x4, x5, x6, x7, x8, x9, some (az_r (34 + e.length)), some (az_r (34 + (e ++ [36]).length)), some (az_i (((k : Nat) : Int))), some (az_i (zqw (zq_way S 0 (((k / 6) : Nat) : Int) (((k % 6) : Nat) : Int)))), x14, x15, x16, x17, x18, x19, x20]) (st2 := [az_i (9999), az_i ((zfw S 1 6) k)]) (s2 := u) (rfl) ?_
  refine bz_if2 452 447 rfl (by decide) (by first | assumption | exact ⟨by omega, by omega⟩) ⟨by decide, by decide⟩ (fun h1 => ?_) (fun h1 => ?_)
  · have h1 : ¬ (zfw S 1 6) k = 9999 := h1
    refine bz_to 2 (pc2 := 456) (lv2 := [some (az_r (0)), x1, x2, x3, x4, x5, x6, x7, x8, x9, some (az_r (34 + e.length)), some (az_r (34 + (e ++ [36]).length)), some (az_i (((k : Nat) : Int))), some (az_i (zqw (zq_way S 0 (((k / 6) : Nat) : Int) (((k % 6) : Nat) : Int)))), x14, x15, x16, x17, x18, x19, x20]) (st2 := [az_i (((k : Nat) : Int)), az_r (34 + (e ++ [36]).length)]) (s2 := u) (rfl) ?_
    refine bz_ld 457 rfl hk1 (by constructor <;> omega) ⟨by decide, rfl⟩ ?_
    refine bz_to 0 (pc2 := 457) (lv2 := [some (az_r (0)), x1, x2, x3, x4, x5, x6, x7, x8, x9, some (az_r (34 + e.length)), some (az_r (34 + (e ++ [36]).length)), some (az_i (((k : Nat) : Int))), some (az_i (zqw (zq_way S 0 (((k / 6) : Nat) : Int) (((k % 6) : Nat) : Int)))), x14, x15, x16, x17, x18, x19, x20]) (st2 := [az_i (u (34 + (e ++ [36]).length) k)]) (s2 := u) (rfl) ?_
    refine bz_to 0 (pc2 := 457) (lv2 := [some (az_r (0)), x1, x2, x3, x4, x5, x6, x7, x8, x9, some (az_r (34 + e.length)), some (az_r (34 + (e ++ [36]).length)), some (az_i (((k : Nat) : Int))), some (az_i (zqw (zq_way S 0 (((k / 6) : Nat) : Int) (((k % 6) : Nat) : Int)))), x14, x15, x16, x17, x18, x19, x20]) (st2 := [az_i ((zfw S 1 6) k)]) (s2 := u) (by rw [hr1]; rfl) ?_
    refine bz_to 1 (pc2 := 459) (lv2 := [some (az_r (0)), x1, x2, x3, x4, x5, x6, x7, x8, x9, some (az_r (34 + e.length)), some (az_r (34 + (e ++ [36]).length)), some (az_i (((k : Nat) : Int))), some (az_i (zqw (zq_way S 0 (((k / 6) : Nat) : Int) (((k % 6) : Nat) : Int)))), some (az_i ((zfw S 1 6) k)), x15, x16, x17, x18, x19, x20]) (st2 := []) (s2 := u) (rfl) ?_
    have eV : (zfw S 1 6) k = zqw (zq_way S 1 (((k / 6) : Nat) : Int) (((k % 6) : Nat) : Int)) := by rw [w1.1, if_neg h1]
    rw [eV]
    exact lq_459 htx hd H hh8 hk0 hk1 hk HC K0 hr0 hr1
  · have h1 : (zfw S 1 6) k = 9999 := Decidable.not_not.mp h1
    refine bz_to 3 (pc2 := 459) (lv2 := [some (az_r (0)), x1, x2, x3, x4, x5, x6, x7, x8, x9, some (az_r (34 + e.length)), some (az_r (34 + (e ++ [36]).length)), some (az_i (((k : Nat) : Int))), some (az_i (zqw (zq_way S 0 (((k / 6) : Nat) : Int) (((k % 6) : Nat) : Int)))), some (az_i (-900002)), x15, x16, x17, x18, x19, x20]) (st2 := []) (s2 := u) (rfl) ?_
    have eV : -900002 = zqw (zq_way S 1 (((k / 6) : Nat) : Int) (((k % 6) : Nat) : Int)) := by rw [w1.1, if_pos h1]
    rw [eV]
    exact lq_459 htx hd H hh8 hk0 hk1 hk HC K0 hr0 hr1
set_option maxRecDepth 100000 in
set_option maxHeartbeats 1600000 in
theorem lq_413 {L : Nat} {xs : Nat → Int32} {tx : Nat → Option String} (htx : ∀ i t, am_sx[i]? = some t → tx i = some t) {d : Nat} (hd : 16 ≤ d) {s : az_S} {S : zR} {h c : Nat} {G : Nat → zR} (H : zkS s S h c G) (hh8 : h ≤ 9000) {e : List Nat} (hk0 : ((e ++ [36]) ++ [36])[e.length]? = some 36) (hk1 : ((e ++ [36]) ++ [36])[(e ++ [36]).length]? = some 36) {Q : az_O → List Nat → az_S → Prop} {N M k : Nat} (hk : k < 36) {x1 x2 x3 x4 x5 x6 x7 x8 x9 x13 x14 x15 x16 x17 x18 x19 x20 : Option az_V} (HC : ∀ {u : az_S} {x13 x14 x15 x16 x17 x18 x19 x20 : Option az_V}, zKx s u (34 + e.length) → u (34 + e.length) = zfw S 0 6 → u (34 + (e ++ [36]).length) = zfw S 1 6 → bz_R L xs tx d am_m_L_isWell 406 [some (az_r (0)), x1, x2, x3, x4, x5, x6, x7, x8, x9, some (az_r (34 + e.length)), some (az_r (34 + (e ++ [36]).length)), some (az_i ((((k + 1) : Nat) : Int))), x13, x14, x15, x16, x17, x18, x19, x20] [] ((e ++ [36]) ++ [36]) u (N) (M) Q)  : ∀ {u : az_S} (K0 : zKx s u (34 + e.length)) (hr0 : u (34 + e.length) = zfw S 0 6) (hr1 : u (34 + (e ++ [36]).length) = zfw S 1 6), bz_R L xs tx d am_m_L_isWell 413 [some (az_r (0)), x1, x2, x3, x4, x5, x6, x7, x8, x9, some (az_r (34 + e.length)), some (az_r (34 + (e ++ [36]).length)), some (az_i (((k : Nat) : Int))), x13, x14, x15, x16, x17, x18, x19, x20] [] ((e ++ [36]) ++ [36]) u (N + 5) (M + 30) Q := by
  have hn := zn_le (zkS_R H).2.1
  have hz := zn_eq (zkS_R H).2.1
  have hI := (zkS_R H).2.1
  have hM9 := (zkS_R H).2.2.2
  have hh : h ≤ 10000 := by omega
  have hh9 := hh
  have hu6 : k / 6 < 6 := by omega
  have hv6 : k % 6 < 6 := by omega
  have e36 : 6 * (k / 6) + k % 6 = k := by omega
  have w0 := zqw_way hI hh9 0 hu6 hv6
  have w1 := zqw_way hI hh9 1 hu6 hv6
  have wh := zqw_hang hI hh9 hu6 hv6
  have wg := zhg_r S (k / 6) (k % 6)
  rw [e36] at w0 w1
  intro u K0 hr0 hr1
  have hwr := (zfw_I hI hh9 0 6 (Nat.le_refl _)).1.2.1 k hk
  refine bz_to 2 (pc2 := 417) (lv2 := [some (az_r (0)), x1, x2, x3, x4, x5, x6, x7, x8, x9, some (az_r (34 + e.length)), some (az_r (34 + (e ++ [36]).length)), some (az_i (((k : Nat) : Int))), x13, x14, x15, x16, x17, x18, x19, x20]) (st2 := [az_i (((k : Nat) : Int)), az_r (34 + e.length)]) (s2 := u) (rfl) ?_
  refine bz_ld 418 rfl hk0 (by constructor <;> omega) ⟨by decide, rfl⟩ ?_
  refine bz_to 0 (pc2 := 418) (lv2 := [some (az_r (0)), x1, x2, x3, x4, x5, x6, x7, x8, x9, some (az_r (34 + e.length)), some (az_r (34 + (e ++ [36]).length)), some (az_i (((k : Nat) : Int))), x13, x14, x15, x16, x17, x18, x19, x20]) (st2 := [az_i (u (34 + e.length) k)]) (s2 := u) (rfl) ?_
  refine bz_to 0 (pc2 := 418) (lv2 := [some (az_r (0)), x1, x2, x3, x4, x5, x6, x7, x8, x9, some (az_r (34 + e.length)), some (az_r (34 + (e ++ [36]).length)), some (az_i (((k : Nat) : Int))), x13, x14, x15, x16, x17, x18, x19, x20]) (st2 := [az_i ((zfw S 0 6) k)]) (s2 := u) (by rw [hr0]; rfl) ?_
  refine bz_to 1 (pc2 := 421) (lv2 := [some (az_r (0)), x1, x2, x3, x4, x5, x6, x7, x8, x9, some (az_r (34 + e.length)), some (az_r (34 + (e ++ [36]).length)), some (az_i (((k : Nat) : Int))), x13, x14, x15, x16, x17, x18, x19, x20]) (st2 := [az_i (9999), az_i ((zfw S 0 6) k)]) (s2 := u) (rfl) ?_
  refine bz_if2 429 424 rfl (by decide) (by first | assumption | exact ⟨by omega, by omega⟩) ⟨by decide, by decide⟩ (fun h1 => ?_) (fun h1 => ?_)
  · have h1 : ¬ (zfw S 0 6) k = 9999 := h1
    refine bz_to 2 (pc2 := 433) (lv2 := [some (az_r (0)), x1, x2, x3, x4, x5, x6, x7, x8, x9, some (az_r (34 + e.length)), some (az_r (34 + (e ++ [36]).length)), some (az_i (((k : Nat) : Int))), x13, x14, x15, x16, x17, x18, x19, x20]) (st2 := [az_i (((k : Nat) : Int)), az_r (34 + e.length)]) (s2 := u) (rfl) ?_
    refine bz_ld 434 rfl hk0 (by constructor <;> omega) ⟨by decide, rfl⟩ ?_
    refine bz_to 0 (pc2 := 434) (lv2 := [some (az_r (0)), x1, x2, x3, x4, x5, x6, x7, x8, x9, some (az_r (34 + e.length)), some (az_r (34 + (e ++ [36]).length)), some (az_i (((k : Nat) : Int))), x13, x14, x15, x16, x17, x18, x19, x20]) (st2 := [az_i (u (34 + e.length) k)]) (s2 := u) (rfl) ?_
    refine bz_to 0 (pc2 := 434) (lv2 := [some (az_r (0)), x1, x2, x3, x4, x5, x6, x7, x8, x9, some (az_r (34 + e.length)), some (az_r (34 + (e ++ [36]).length)), some (az_i (((k : Nat) : Int))), x13, x14, x15, x16, x17, x18, x19, x20]) (st2 := [az_i ((zfw S 0 6) k)]) (s2 := u) (by rw [hr0]; rfl) ?_
    refine bz_to 1 (pc2 := 436) (lv2 := [some (az_r (0)), x1, x2, x3, x4, x5, x6, x7, x8, x9, some (az_r (34 + e.length)), some (az_r (34 + (e ++ [36]).length)), some (az_i (((k : Nat) : Int))), some (az_i ((zfw S 0 6) k)), x14, x15, x16, x17, x18, x19, x20]) (st2 := []) (s2 := u) (rfl) ?_
    have eV : (zfw S 0 6) k = zqw (zq_way S 0 (((k / 6) : Nat) : Int) (((k % 6) : Nat) : Int)) := by rw [w0.1, if_neg h1]
    rw [eV]
    exact lq_436 htx hd H hh8 hk0 hk1 hk HC K0 hr0 hr1
  · have h1 : (zfw S 0 6) k = 9999 := Decidable.not_not.mp h1
    refine bz_to 3 (pc2 := 436) (lv2 := [some (az_r (0)), x1, x2, x3, x4, x5, x6, x7, x8, x9, some (az_r (34 + e.length)), some (az_r (34 + (e ++ [36]).length)), some (az_i (((k : Nat) : Int))), some (az_i (-900002)), x14, x15, x16, x17, x18, x19, x20]) (st2 := []) (s2 := u) (rfl) ?_
    have eV : -900002 = zqw (zq_way S 0 (((k / 6) : Nat) : Int) (((k % 6) : Nat) : Int)) := by rw [w0.1, if_pos h1]
    rw [eV]
    exact lq_436 htx hd H hh8 hk0 hk1 hk HC K0 hr0 hr1
