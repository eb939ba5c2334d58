/-! THE LAW, 3: the rows of ways; written by program (wip/p47tools/l63.py) -/
set_option maxRecDepth 100000 in
set_option maxHeartbeats 1600000 in
theorem lb_ways0_I {L : Nat} {xs : Nat → Int32} {tx : Nat → Option String} (htx : ∀ i t, am_sx[i]? = some t → tx i = some t) {d : Nat} (hd : 14 ≤ d) {s : az_S} {S : zR} {h c : Nat} {G : Nat → zR} (H : zkS s S h c G) (hh : h ≤ 10000) {e : List Nat} {N M : Nat} (hk9 : (e ++ [36])[e.length]? = some 36) : ∀ (mq o k : Nat) (x5 x6 : Option az_V), mq = 38 * (6 - o) - k → o < 6 → k ≤ 36 → ∀ {u : az_S}, zKx s u (34 + e.length) → u (34 + e.length) = zfP o (zfw S 0 o) k → bz_R L xs tx d am_m_L_ways 148 [some (az_r 0), some (az_i 0), some (az_r (34 + e.length)), some (az_i ((o : Nat) : Int)), some (az_i ((k : Nat) : Int)), x5, x6] [] (e ++ [36]) u N M (fun o e2 t => o = .inl (some (az_r (34 + e.length))) ∧ e2 = e ++ [36] ∧ zKx s t (34 + e.length) ∧ t (34 + e.length) = zfw S 0 6) := by
  intro mq
  induction mq using Nat.strongRecOn with
  | _ mq ih =>
    intro o k x5 x6 hm ho hk u K0 hr
    subst hm
    refine bz_to 2 (pc2 := 152) (lv2 := [some (az_r (0)), some (az_i (0)), some (az_r (34 + e.length)), some (az_i (((o : Nat) : Int))), some (az_i (((k : Nat) : Int))), x5, x6]) (st2 := [az_i (36), az_i (((k : Nat) : Int))]) (s2 := u) (rfl) ?_
    refine bz_if2 197 155 rfl (by decide) (by first | assumption | exact ⟨by omega, by omega⟩) ⟨by decide, by decide⟩ (fun h1 => ?_) (fun h1 => ?_)
    · have h1 : 36 ≤ ((k : Nat) : Int) := h1
      refine bz_to 2 (pc2 := 139) (lv2 := [some (az_r (0)), some (az_i (0)), some (az_r (34 + e.length)), some (az_i ((((o : Nat) : Int) + 1))), some (az_i (((k : Nat) : Int))), x5, x6]) (st2 := []) (s2 := u) (rfl) ?_
      have z1 : k = 36 := by omega
      subst z1
      have r9 : u (34 + e.length) = zfw S 0 (o + 1) := by rw [hr, zfP_e]; rfl
      refine bz_to 0 (pc2 := 139) (lv2 := [some (az_r (0)), some (az_i (0)), some (az_r (34 + e.length)), some (az_i ((((o : Nat) : Int) + 1))), some (az_i (36)), x5, x6]) (st2 := []) (s2 := u) (rfl) ?_
      refine bz_to 2 (pc2 := 142) (lv2 := [some (az_r (0)), some (az_i (0)), some (az_r (34 + e.length)), some (az_i ((((o : Nat) : Int) + 1))), some (az_i (36)), x5, x6]) (st2 := [az_i (6), az_i ((((o : Nat) : Int) + 1))]) (s2 := u) (rfl) ?_
      refine bz_if2 203 145 rfl (by decide) (by first | assumption | exact ⟨by omega, by omega⟩) ⟨by decide, by decide⟩ (fun h2 => ?_) (fun h2 => ?_)
      · have h2 : 6 ≤ (((o : Nat) : Int) + 1) := h2
        refine bz_to 1 (pc2 := 204) (lv2 := [some (az_r (0)), some (az_i (0)), some (az_r (34 + e.length)), some (az_i ((((o : Nat) : Int) + 1))), some (az_i (36)), x5, x6]) (st2 := [az_r (34 + e.length)]) (s2 := u) (rfl) ?_
        refine bz_retA rfl rfl (Or.inr ⟨_, rfl⟩) ⟨rfl, rfl, K0, ?_⟩
        rw [r9, show o + 1 = 6 from by omega]
      · have h2 : ¬ (6 ≤ (((o : Nat) : Int) + 1)) := h2
        refine bz_to 2 (pc2 := 148) (lv2 := [some (az_r (0)), some (az_i (0)), some (az_r (34 + e.length)), some (az_i ((((o : Nat) : Int) + 1))), some (az_i (0)), x5, x6]) (st2 := []) (s2 := u) (rfl) ?_
        exact ih _ (by omega) (o + 1) 0 _ _ rfl (by omega) (by omega) K0 (by rw [r9, zfP_0])
    · have h1 : ¬ (36 ≤ ((k : Nat) : Int)) := h1
      have hI9 := (zfw_I (zkS_R H).2.1 hh 0 o (by omega)).1
      obtain ⟨e1, e2, e3⟩ := zfP_k (k := k) (by omega) (by omega) hI9
      have f1 := hI9.2.1 k (by omega)
      have f2 := hI9.2.1 (k / 6 * 6 + o) (by omega)
      have f3 := hI9.2.1 (6 * o + k % 6) (by omega)
      refine bz_to 4 (pc2 := 161) (lv2 := [some (az_r (0)), some (az_i (0)), some (az_r (34 + e.length)), some (az_i (((o : Nat) : Int))), some (az_i (((k : Nat) : Int))), x5, x6]) (st2 := [az_i (((k : Nat) : Int)), az_r (34 + e.length), az_i (((k : Nat) : Int)), az_r (34 + e.length)]) (s2 := u) (rfl) ?_
      refine bz_ld 162 rfl hk9 (by constructor <;> omega) ⟨by decide, rfl⟩ ?_
      refine bz_to 0 (pc2 := 162) (lv2 := [some (az_r (0)), some (az_i (0)), some (az_r (34 + e.length)), some (az_i (((o : Nat) : Int))), some (az_i (((k : Nat) : Int))), x5, x6]) (st2 := [az_i (u (34 + e.length) k), az_i (((k : Nat) : Int)), az_r (34 + e.length)]) (s2 := u) (rfl) ?_
      refine bz_to 0 (pc2 := 162) (lv2 := [some (az_r (0)), some (az_i (0)), some (az_r (34 + e.length)), some (az_i (((o : Nat) : Int))), some (az_i (((k : Nat) : Int))), x5, x6]) (st2 := [az_i ((zfP o (zfw S 0 o) k) k), az_i (((k : Nat) : Int)), az_r (34 + e.length)]) (s2 := u) (by rw [hr]; rfl) ?_
      refine bz_to 3 (pc2 := 167) (lv2 := [some (az_r (0)), some (az_i (0)), some (az_r (34 + e.length)), some (az_i (((o : Nat) : Int))), some (az_i (((k : Nat) : Int))), x5, x6]) (st2 := [az_i (6), az_i (((k : Nat) : Int)), az_r (34 + e.length), az_i ((zfP o (zfw S 0 o) k) k), az_i (((k : Nat) : Int)), az_r (34 + e.length)]) (s2 := u) (rfl) ?_
      refine bz_div 168 rfl (by constructor <;> omega) (by constructor <;> omega) rfl ?_
      refine bz_to 0 (pc2 := 168) (lv2 := [some (az_r (0)), some (az_i (0)), some (az_r (34 + e.length)), some (az_i (((o : Nat) : Int))), some (az_i (((k : Nat) : Int))), x5, x6]) (st2 := [az_i ((((k / 6) : Nat) : Int)), az_r (34 + e.length), az_i ((zfP o (zfw S 0 o) k) k), az_i (((k : Nat) : Int)), az_r (34 + e.length)]) (s2 := u) (rfl) ?_
      refine bz_to 4 (pc2 := 173) (lv2 := [some (az_r (0)), some (az_i (0)), some (az_r (34 + e.length)), some (az_i (((o : Nat) : Int))), some (az_i (((k : Nat) : Int))), x5, x6]) (st2 := [az_i ((((((k / 6) : Nat) : Int) * 6) + ((o : Nat) : Int))), az_r (34 + e.length), az_i ((zfP o (zfw S 0 o) k) k), az_i (((k : Nat) : Int)), az_r (34 + e.length)]) (s2 := u) (rfl) ?_
      refine bz_ld 174 rfl hk9 (by constructor <;> omega) ⟨by decide, rfl⟩ ?_
      refine bz_to 0 (pc2 := 174) (lv2 := [some (az_r (0)), some (az_i (0)), some (az_r (34 + e.length)), some (az_i (((o : Nat) : Int))), some (az_i (((k : Nat) : Int))), x5, x6]) (st2 := [az_i (u (34 + e.length) (((k / 6) * 6) + o)), az_i ((zfP o (zfw S 0 o) k) k), az_i (((k : Nat) : Int)), az_r (34 + e.length)]) (s2 := u) (rfl) ?_
      refine bz_to 0 (pc2 := 174) (lv2 := [some (az_r (0)), some (az_i (0)), some (az_r (34 + e.length)), some (az_i (((o : Nat) : Int))), some (az_i (((k : Nat) : Int))), x5, x6]) (st2 := [az_i ((zfP o (zfw S 0 o) k) (((k / 6) * 6) + o)), az_i ((zfP o (zfw S 0 o) k) k), az_i (((k : Nat) : Int)), az_r (34 + e.length)]) (s2 := u) (by rw [hr]; rfl) ?_
      refine bz_to 6 (pc2 := 183) (lv2 := [some (az_r (0)), some (az_i (0)), some (az_r (34 + e.length)), some (az_i (((o : Nat) : Int))), some (az_i (((k : Nat) : Int))), x5, x6]) (st2 := [az_i (6), az_i (((k : Nat) : Int)), az_i ((6 * ((o : Nat) : Int))), az_r (34 + e.length), az_i ((zfP o (zfw S 0 o) k) (((k / 6) * 6) + o)), az_i ((zfP o (zfw S 0 o) k) k), az_i (((k : Nat) : Int)), az_r (34 + e.length)]) (s2 := u) (rfl) ?_
      refine bz_rem 184 rfl (by constructor <;> omega) (by constructor <;> omega) rfl ?_
      refine bz_to 0 (pc2 := 184) (lv2 := [some (az_r (0)), some (az_i (0)), some (az_r (34 + e.length)), some (az_i (((o : Nat) : Int))), some (az_i (((k : Nat) : Int))), x5, x6]) (st2 := [az_i ((((k % 6) : Nat) : Int)), az_i ((6 * ((o : Nat) : Int))), az_r (34 + e.length), az_i ((zfP o (zfw S 0 o) k) (((k / 6) * 6) + o)), az_i ((zfP o (zfw S 0 o) k) k), az_i (((k : Nat) : Int)), az_r (34 + e.length)]) (s2 := u) (rfl) ?_
      refine bz_to 1 (pc2 := 185) (lv2 := [some (az_r (0)), some (az_i (0)), some (az_r (34 + e.length)), some (az_i (((o : Nat) : Int))), some (az_i (((k : Nat) : Int))), x5, x6]) (st2 := [az_i (((6 * ((o : Nat) : Int)) + (((k % 6) : Nat) : Int))), az_r (34 + e.length), az_i ((zfP o (zfw S 0 o) k) (((k / 6) * 6) + o)), az_i ((zfP o (zfw S 0 o) k) k), az_i (((k : Nat) : Int)), az_r (34 + e.length)]) (s2 := u) (rfl) ?_
      refine bz_ld 186 rfl hk9 (by constructor <;> omega) ⟨by decide, rfl⟩ ?_
      refine bz_to 0 (pc2 := 186) (lv2 := [some (az_r (0)), some (az_i (0)), some (az_r (34 + e.length)), some (az_i (((o : Nat) : Int))), some (az_i (((k : Nat) : Int))), x5, x6]) (st2 := [az_i (u (34 + e.length) ((6 * o) + (k % 6))), az_i ((zfP o (zfw S 0 o) k) (((k / 6) * 6) + o)), az_i ((zfP o (zfw S 0 o) k) k), az_i (((k : Nat) : Int)), az_r (34 + e.length)]) (s2 := u) (rfl) ?_
      refine bz_to 0 (pc2 := 186) (lv2 := [some (az_r (0)), some (az_i (0)), some (az_r (34 + e.length)), some (az_i (((o : Nat) : Int))), some (az_i (((k : Nat) : Int))), x5, x6]) (st2 := [az_i ((zfP o (zfw S 0 o) k) ((6 * o) + (k % 6))), az_i ((zfP o (zfw S 0 o) k) (((k / 6) * 6) + o)), az_i ((zfP o (zfw S 0 o) k) k), az_i (((k : Nat) : Int)), az_r (34 + e.length)]) (s2 := u) (by rw [hr]; rfl) ?_
      refine bz_to 1 (pc2 := 187) (lv2 := [some (az_r (0)), some (az_i (0)), some (az_r (34 + e.length)), some (az_i (((o : Nat) : Int))), some (az_i (((k : Nat) : Int))), x5, x6]) (st2 := [az_i (((zfP o (zfw S 0 o) k) (((k / 6) * 6) + o) + (zfP o (zfw S 0 o) k) ((6 * o) + (k % 6)))), az_i ((zfP o (zfw S 0 o) k) k), az_i (((k : Nat) : Int)), az_r (34 + e.length)]) (s2 := u) (rfl) ?_
      refine bz_to 0 (pc2 := 187) (lv2 := [some (az_r (0)), some (az_i (0)), some (az_r (34 + e.length)), some (az_i (((o : Nat) : Int))), some (az_i (((k : Nat) : Int))), x5, x6]) (st2 := [az_i ((zfw S 0 o (k / 6 * 6 + o) + zfw S 0 o (6 * o + k % 6))), az_i (zfw S 0 o k), az_i (((k : Nat) : Int)), az_r (34 + e.length)]) (s2 := u) (by rw [show (zfP o (zfw S 0 o) k) (((k / 6) * 6) + o) = zfw S 0 o (k / 6 * 6 + o) from e2, show (zfP o (zfw S 0 o) k) ((6 * o) + (k % 6)) = zfw S 0 o (6 * o + k % 6) from e3, show (zfP o (zfw S 0 o) k) k = zfw S 0 o k from e1]; rfl) ?_
      refine bz_min 190 rfl rfl ⟨rfl, show (2 : Nat) ≤ 8 by decide, rfl⟩ ⟨by omega, by omega⟩ ⟨by omega, by omega⟩ ?_
      refine bz_to 0 (pc2 := 190) (lv2 := [some (az_r (0)), some (az_i (0)), some (az_r (34 + e.length)), some (az_i (((o : Nat) : Int))), some (az_i (((k : Nat) : Int))), x5, x6]) (st2 := [az_i (zmn (zfw S 0 o k) (zfw S 0 o (k / 6 * 6 + o) + zfw S 0 o (6 * o + k % 6))), az_i (((k : Nat) : Int)), az_r (34 + e.length)]) (s2 := u) (rfl) ?_
      refine bz_st 191 rfl hk9 (by constructor <;> omega) ⟨by decide, rfl⟩ ?_
      have K8 := zKx_up (i := 34 + e.length) (j := k) (v := zmn (zfw S 0 o k) (zfw S 0 o (k / 6 * 6 + o) + zfw S 0 o (6 * o + k % 6))) K0 (Nat.le_refl _) (by omega)
      have r8 := zfP_s hr (show k < 36 by omega)
      refine bz_to 0 (pc2 := 191) (lv2 := [some (az_r (0)), some (az_i (0)), some (az_r (34 + e.length)), some (az_i (((o : Nat) : Int))), some (az_i (((k : Nat) : Int))), x5, x6]) (st2 := []) (s2 := am_up u (34 + e.length) k (zmn (zfw S 0 o k) (zfw S 0 o (k / 6 * 6 + o) + zfw S 0 o (6 * o + k % 6)))) (rfl) ?_
      refine bz_to 2 (pc2 := 148) (lv2 := [some (az_r (0)), some (az_i (0)), some (az_r (34 + e.length)), some (az_i (((o : Nat) : Int))), some (az_i ((((k : Nat) : Int) + 1))), x5, x6]) (st2 := []) (s2 := am_up u (34 + e.length) k (zmn (zfw S 0 o k) (zfw S 0 o (k / 6 * 6 + o) + zfw S 0 o (6 * o + k % 6)))) (rfl) ?_
      exact ih _ (by omega) o (k + 1) _ _ rfl (by omega) (by omega) K8 r8
set_option maxRecDepth 100000 in
set_option maxHeartbeats 1600000 in
theorem lb_ways0_B {L : Nat} {xs : Nat → Int32} {tx : Nat → Option String} (htx : ∀ i t, am_sx[i]? = some t → tx i = some t) {d : Nat} (hd : 14 ≤ d) {s : az_S} {S : zR} {h c : Nat} {G : Nat → zR} (H : zkS s S h c G) (hh : h ≤ 10000) {e : List Nat} {N M : Nat} (hk9 : (e ++ [36])[e.length]? = some 36) : ∀ (mq b : Nat) (x4 x5 x6 : Option az_V), mq = zn S 0 - b → b ≤ zn S 0 → ∀ {u : az_S}, zKx s u (34 + e.length) → u (34 + e.length) = zwB S 0 b → bz_R L xs tx d am_m_L_ways 42 [some (az_r 0), some (az_i 0), some (az_r (34 + e.length)), some (az_i ((b : Nat) : Int)), x4, x5, x6] [] (e ++ [36]) u N M (fun o e2 t => o = .inl (some (az_r (34 + e.length))) ∧ e2 = e ++ [36] ∧ zKx s t (34 + e.length) ∧ t (34 + e.length) = zfw S 0 6) := by
  have hn := zn_le (zkS_R H).2.1
  intro mq
  induction mq using Nat.strongRecOn with
  | _ mq ih =>
    intro b x4 x5 x6 hm hb u K0 hr
    subst hm
    refine bz_to 3 (pc2 := 45) (lv2 := [some (az_r (0)), some (az_i (0)), some (az_r (34 + e.length)), some (az_i (((b : Nat) : Int))), x4, x5, x6]) (st2 := [az_i (0), az_r (0), az_i (((b : Nat) : Int))]) (s2 := u) (rfl) ?_
    refine bz_q (v := zlA S c 0) (m2 := am_m_X9_account) (as := [az_r (0), az_i (0)]) (rest := [az_i (((b : Nat) : Int))]) htx 48 rfl rfl rfl (by omega) (lk_account (zkS_x H K0) hh (by omega) (by constructor <;> omega)) (fun t1 q2 => ?_)
    have K3 := zKx_q K0 q2
    have r4 : t1 (34 + e.length) = zwB S 0 b := (q2.2 _ (by omega)).trans hr
    refine bz_to 0 (pc2 := 48) (lv2 := [some (az_r (0)), some (az_i (0)), some (az_r (34 + e.length)), some (az_i (((b : Nat) : Int))), x4, x5, x6]) (st2 := [az_i (zlA S c 0), az_i (((b : Nat) : Int))]) (s2 := t1) (rfl) ?_
    refine bz_to 0 (pc2 := 48) (lv2 := [some (az_r (0)), some (az_i (0)), some (az_r (34 + e.length)), some (az_i (((b : Nat) : Int))), x4, x5, x6]) (st2 := [az_i (((zn S 0 : Nat) : Int)), az_i (((b : Nat) : Int))]) (s2 := t1) (rfl) ?_
    refine bz_if2 137 51 rfl (by decide) (by first | assumption | exact ⟨by omega, by omega⟩) (by first | assumption | exact ⟨by omega, by omega⟩) (fun h1 => ?_) (fun h1 => ?_)
    · have h1 : ((zn S 0 : Nat) : Int) ≤ ((b : Nat) : Int) := h1
      refine bz_to 2 (pc2 := 139) (lv2 := [some (az_r (0)), some (az_i (0)), some (az_r (34 + e.length)), some (az_i (0)), x4, x5, x6]) (st2 := []) (s2 := t1) (rfl) ?_
      have z1 : b = zn S 0 := by omega
      have r9 : t1 (34 + e.length) = zfw S 0 0 := by rw [r4, z1]; rfl
      refine bz_to 2 (pc2 := 142) (lv2 := [some (az_r (0)), some (az_i (0)), some (az_r (34 + e.length)), some (az_i (0)), x4, x5, x6]) (st2 := [az_i (6), az_i (0)]) (s2 := t1) (rfl) ?_
      refine bz_if2 203 145 rfl (by decide) ⟨by decide, by decide⟩ ⟨by decide, by decide⟩ (fun h9 => absurd h9 (by unfold az_cnd; decide)) (fun _ => ?_)
      refine bz_to 2 (pc2 := 148) (lv2 := [some (az_r (0)), some (az_i (0)), some (az_r (34 + e.length)), some (az_i (0)), some (az_i (0)), x5, x6]) (st2 := []) (s2 := t1) (rfl) ?_
      exact lb_ways0_I htx hd H hh hk9 _ 0 0 _ _ rfl (by omega) (by omega) K3 (by rw [r9, zfP_0])
    · have h1 : ¬ (((zn S 0 : Nat) : Int) ≤ ((b : Nat) : Int)) := h1
      have hz := zI_b (zkS_R H).2.1 hh (b := b) (by omega)
      have c0 : (((zB S b 0).toNat : Nat) : Int) = zB S b 0 := Int.toNat_of_nonneg (by omega)
      have c1 : (((zB S b 1).toNat : Nat) : Int) = zB S b 1 := Int.toNat_of_nonneg (by omega)
      have hB := (zwB_I (zkS_R H).2.1 hh 0 b (by omega)).1.2.1 (6 * (zB S b 0).toNat + (zB S b 1).toNat) (by omega)
      have hl := zln_r (zkS_R H).2.1 hh (m := 0) (b := b) (by omega)
      refine bz_to 3 (pc2 := 54) (lv2 := [some (az_r (0)), some (az_i (0)), some (az_r (34 + e.length)), some (az_i (((b : Nat) : Int))), x4, x5, x6]) (st2 := [az_i (0), az_i (((b : Nat) : Int)), az_r (0)]) (s2 := t1) (rfl) ?_
      refine bz_q (v := zlB S ((b : Nat) : Int) 0) (m2 := am_m_X9_bridgeOf) (as := [az_r (0), az_i (((b : Nat) : Int)), az_i (0)]) (rest := []) htx 57 rfl rfl rfl (by omega) (lk_bridgeOf (zkS_x H K3) hh (by omega) (by constructor <;> omega) (by constructor <;> omega)) (fun t5 q6 => ?_)
      have K7 := zKx_q K3 q6
      have r8 : t5 (34 + e.length) = zwB S 0 b := (q6.2 _ (by omega)).trans r4
      refine bz_to 0 (pc2 := 57) (lv2 := [some (az_r (0)), some (az_i (0)), some (az_r (34 + e.length)), some (az_i (((b : Nat) : Int))), x4, x5, x6]) (st2 := [az_i (zlB S ((b : Nat) : Int) 0)]) (s2 := t5) (rfl) ?_
      refine bz_to 0 (pc2 := 57) (lv2 := [some (az_r (0)), some (az_i (0)), some (az_r (34 + e.length)), some (az_i (((b : Nat) : Int))), x4, x5, x6]) (st2 := [az_i (zB S b 0)]) (s2 := t5) (by rw [zlB_v0 (by omega)]; rfl) ?_
      refine bz_to 0 (pc2 := 57) (lv2 := [some (az_r (0)), some (az_i (0)), some (az_r (34 + e.length)), some (az_i (((b : Nat) : Int))), x4, x5, x6]) (st2 := [az_i ((((zB S b 0).toNat : Nat) : Int))]) (s2 := t5) (by rw [c0]; rfl) ?_
      refine bz_to 4 (pc2 := 62) (lv2 := [some (az_r (0)), some (az_i (0)), some (az_r (34 + e.length)), some (az_i (((b : Nat) : Int))), some (az_i ((((zB S b 0).toNat : Nat) : Int))), x5, x6]) (st2 := [az_i (1), az_i (((b : Nat) : Int)), az_r (0)]) (s2 := t5) (rfl) ?_
      refine bz_q (v := zlB S ((b : Nat) : Int) 1) (m2 := am_m_X9_bridgeOf) (as := [az_r (0), az_i (((b : Nat) : Int)), az_i (1)]) (rest := []) htx 65 rfl rfl rfl (by omega) (lk_bridgeOf (zkS_x H K7) hh (by omega) (by constructor <;> omega) (by constructor <;> omega)) (fun t9 q10 => ?_)
      have K11 := zKx_q K7 q10
      have r12 : t9 (34 + e.length) = zwB S 0 b := (q10.2 _ (by omega)).trans r8
      refine bz_to 0 (pc2 := 65) (lv2 := [some (az_r (0)), some (az_i (0)), some (az_r (34 + e.length)), some (az_i (((b : Nat) : Int))), some (az_i ((((zB S b 0).toNat : Nat) : Int))), x5, x6]) (st2 := [az_i (zlB S ((b : Nat) : Int) 1)]) (s2 := t9) (rfl) ?_
      refine bz_to 0 (pc2 := 65) (lv2 := [some (az_r (0)), some (az_i (0)), some (az_r (34 + e.length)), some (az_i (((b : Nat) : Int))), some (az_i ((((zB S b 0).toNat : Nat) : Int))), x5, x6]) (st2 := [az_i (zB S b 1)]) (s2 := t9) (by rw [zlB_v1 (by omega)]; rfl) ?_
      refine bz_to 0 (pc2 := 65) (lv2 := [some (az_r (0)), some (az_i (0)), some (az_r (34 + e.length)), some (az_i (((b : Nat) : Int))), some (az_i ((((zB S b 0).toNat : Nat) : Int))), x5, x6]) (st2 := [az_i ((((zB S b 1).toNat : Nat) : Int))]) (s2 := t9) (by rw [c1]; rfl) ?_
      refine bz_to 2 (pc2 := 68) (lv2 := [some (az_r (0)), some (az_i (0)), some (az_r (34 + e.length)), some (az_i (((b : Nat) : Int))), some (az_i ((((zB S b 0).toNat : Nat) : Int))), some (az_i ((((zB S b 1).toNat : Nat) : Int))), x6]) (st2 := [az_i (0)]) (s2 := t9) (rfl) ?_
      refine bz_ifc 79 71 rfl (by decide) ⟨by decide, by decide⟩ (fun _ => ?_) (fun h9 => absurd (show az_cnd _ _ _ by unfold az_cnd; decide) h9)
      refine bz_to 2 (pc2 := 81) (lv2 := [some (az_r (0)), some (az_i (0)), some (az_r (34 + e.length)), some (az_i (((b : Nat) : Int))), some (az_i ((((zB S b 0).toNat : Nat) : Int))), some (az_i ((((zB S b 1).toNat : Nat) : Int))), x6]) (st2 := [az_i (((b : Nat) : Int)), az_r (0)]) (s2 := t9) (rfl) ?_
      refine bz_q (v := zdue S b) (m2 := am_m_X9_due) (as := [az_r (0), az_i (((b : Nat) : Int))]) (rest := []) htx 84 rfl rfl rfl (by omega) (lk_due (zkS_x H K11) hh (by omega) (by omega)) (fun t13 q14 => ?_)
      have K15 := zKx_q K11 q14
      have r16 : t13 (34 + e.length) = zwB S 0 b := (q14.2 _ (by omega)).trans r12
      refine bz_to 0 (pc2 := 84) (lv2 := [some (az_r (0)), some (az_i (0)), some (az_r (34 + e.length)), some (az_i (((b : Nat) : Int))), some (az_i ((((zB S b 0).toNat : Nat) : Int))), some (az_i ((((zB S b 1).toNat : Nat) : Int))), x6]) (st2 := [az_i (zdue S b)]) (s2 := t13) (rfl) ?_
      refine bz_to 0 (pc2 := 84) (lv2 := [some (az_r (0)), some (az_i (0)), some (az_r (34 + e.length)), some (az_i (((b : Nat) : Int))), some (az_i ((((zB S b 0).toNat : Nat) : Int))), some (az_i ((((zB S b 1).toNat : Nat) : Int))), x6]) (st2 := [az_i (zln S 0 b)]) (s2 := t13) (rfl) ?_
      refine bz_to 13 (pc2 := 104) (lv2 := [some (az_r (0)), some (az_i (0)), some (az_r (34 + e.length)), some (az_i (((b : Nat) : Int))), some (az_i ((((zB S b 0).toNat : Nat) : Int))), some (az_i ((((zB S b 1).toNat : Nat) : Int))), some (az_i (zln S 0 b))]) (st2 := [az_i (((6 * (((zB S b 0).toNat : Nat) : Int)) + (((zB S b 1).toNat : Nat) : Int))), az_r (34 + e.length), az_i (((6 * (((zB S b 0).toNat : Nat) : Int)) + (((zB S b 1).toNat : Nat) : Int))), az_r (34 + e.length)]) (s2 := t13) (rfl) ?_
      refine bz_ld 105 rfl hk9 (by constructor <;> omega) ⟨by decide, rfl⟩ ?_
      refine bz_to 0 (pc2 := 105) (lv2 := [some (az_r (0)), some (az_i (0)), some (az_r (34 + e.length)), some (az_i (((b : Nat) : Int))), some (az_i ((((zB S b 0).toNat : Nat) : Int))), some (az_i ((((zB S b 1).toNat : Nat) : Int))), some (az_i (zln S 0 b))]) (st2 := [az_i (t13 (34 + e.length) ((6 * (zB S b 0).toNat) + (zB S b 1).toNat)), az_i (((6 * (((zB S b 0).toNat : Nat) : Int)) + (((zB S b 1).toNat : Nat) : Int))), az_r (34 + e.length)]) (s2 := t13) (rfl) ?_
      refine bz_to 0 (pc2 := 105) (lv2 := [some (az_r (0)), some (az_i (0)), some (az_r (34 + e.length)), some (az_i (((b : Nat) : Int))), some (az_i ((((zB S b 0).toNat : Nat) : Int))), some (az_i ((((zB S b 1).toNat : Nat) : Int))), some (az_i (zln S 0 b))]) (st2 := [az_i ((zwB S 0 b) ((6 * (zB S b 0).toNat) + (zB S b 1).toNat)), az_i (((6 * (((zB S b 0).toNat : Nat) : Int)) + (((zB S b 1).toNat : Nat) : Int))), az_r (34 + e.length)]) (s2 := t13) (by rw [r16]; rfl) ?_
      refine bz_to 1 (pc2 := 107) (lv2 := [some (az_r (0)), some (az_i (0)), some (az_r (34 + e.length)), some (az_i (((b : Nat) : Int))), some (az_i ((((zB S b 0).toNat : Nat) : Int))), some (az_i ((((zB S b 1).toNat : Nat) : Int))), some (az_i (zln S 0 b))]) (st2 := [az_i (zln S 0 b), az_i ((zwB S 0 b) ((6 * (zB S b 0).toNat) + (zB S b 1).toNat)), az_i (((6 * (((zB S b 0).toNat : Nat) : Int)) + (((zB S b 1).toNat : Nat) : Int))), az_r (34 + e.length)]) (s2 := t13) (rfl) ?_
      refine bz_min 110 rfl rfl ⟨rfl, show (2 : Nat) ≤ 8 by decide, rfl⟩ ⟨by omega, by omega⟩ ⟨by omega, by omega⟩ ?_
      refine bz_to 0 (pc2 := 110) (lv2 := [some (az_r (0)), some (az_i (0)), some (az_r (34 + e.length)), some (az_i (((b : Nat) : Int))), some (az_i ((((zB S b 0).toNat : Nat) : Int))), some (az_i ((((zB S b 1).toNat : Nat) : Int))), some (az_i (zln S 0 b))]) (st2 := [az_i (zmn (zwB S 0 b (6 * (zB S b 0).toNat + (zB S b 1).toNat)) (zln S 0 b)), az_i (((6 * (((zB S b 0).toNat : Nat) : Int)) + (((zB S b 1).toNat : Nat) : Int))), az_r (34 + e.length)]) (s2 := t13) (rfl) ?_
      refine bz_st 111 rfl hk9 (by constructor <;> omega) ⟨by decide, rfl⟩ ?_
      have K7 := zKx_up (i := 34 + e.length) (j := (6 * (zB S b 0).toNat + (zB S b 1).toNat)) (v := zmn (zwB S 0 b (6 * (zB S b 0).toNat + (zB S b 1).toNat)) (zln S 0 b)) K15 (Nat.le_refl _) (by omega)
      have r7 : (am_up t13 (34 + e.length) (6 * (zB S b 0).toNat + (zB S b 1).toNat) (zmn (zwB S 0 b (6 * (zB S b 0).toNat + (zB S b 1).toNat)) (zln S 0 b))) (34 + e.length) = zwU (zwB S 0 b) (6 * (zB S b 0).toNat + (zB S b 1).toNat) (zmn (zwB S 0 b (6 * (zB S b 0).toNat + (zB S b 1).toNat)) (zln S 0 b)) := by rw [am_up_row, r16]; rfl
      refine bz_to 0 (pc2 := 111) (lv2 := [some (az_r (0)), some (az_i (0)), some (az_r (34 + e.length)), some (az_i (((b : Nat) : Int))), some (az_i ((((zB S b 0).toNat : Nat) : Int))), some (az_i ((((zB S b 1).toNat : Nat) : Int))), some (az_i (zln S 0 b))]) (st2 := []) (s2 := am_up t13 (34 + e.length) (6 * (zB S b 0).toNat + (zB S b 1).toNat) (zmn (zwB S 0 b (6 * (zB S b 0).toNat + (zB S b 1).toNat)) (zln S 0 b))) (rfl) ?_
      refine bz_to 12 (pc2 := 129) (lv2 := [some (az_r (0)), some (az_i (0)), some (az_r (34 + e.length)), some (az_i (((b : Nat) : Int))), some (az_i ((((zB S b 0).toNat : Nat) : Int))), some (az_i ((((zB S b 1).toNat : Nat) : Int))), some (az_i (zln S 0 b))]) (st2 := [az_i (((6 * (((zB S b 0).toNat : Nat) : Int)) + (((zB S b 1).toNat : Nat) : Int))), az_r (34 + e.length), az_i (((6 * (((zB S b 1).toNat : Nat) : Int)) + (((zB S b 0).toNat : Nat) : Int))), az_r (34 + e.length)]) (s2 := am_up t13 (34 + e.length) (6 * (zB S b 0).toNat + (zB S b 1).toNat) (zmn (zwB S 0 b (6 * (zB S b 0).toNat + (zB S b 1).toNat)) (zln S 0 b))) (rfl) ?_
      refine bz_ld 130 rfl hk9 (by constructor <;> omega) ⟨by decide, rfl⟩ ?_
      refine bz_to 0 (pc2 := 130) (lv2 := [some (az_r (0)), some (az_i (0)), some (az_r (34 + e.length)), some (az_i (((b : Nat) : Int))), some (az_i ((((zB S b 0).toNat : Nat) : Int))), some (az_i ((((zB S b 1).toNat : Nat) : Int))), some (az_i (zln S 0 b))]) (st2 := [az_i ((am_up t13 (34 + e.length) (6 * (zB S b 0).toNat + (zB S b 1).toNat) (zmn (zwB S 0 b (6 * (zB S b 0).toNat + (zB S b 1).toNat)) (zln S 0 b))) (34 + e.length) ((6 * (zB S b 0).toNat) + (zB S b 1).toNat)), az_i (((6 * (((zB S b 1).toNat : Nat) : Int)) + (((zB S b 0).toNat : Nat) : Int))), az_r (34 + e.length)]) (s2 := am_up t13 (34 + e.length) (6 * (zB S b 0).toNat + (zB S b 1).toNat) (zmn (zwB S 0 b (6 * (zB S b 0).toNat + (zB S b 1).toNat)) (zln S 0 b))) (rfl) ?_
      refine bz_to 0 (pc2 := 130) (lv2 := [some (az_r (0)), some (az_i (0)), some (az_r (34 + e.length)), some (az_i (((b : Nat) : Int))), some (az_i ((((zB S b 0).toNat : Nat) : Int))), some (az_i ((((zB S b 1).toNat : Nat) : Int))), some (az_i (zln S 0 b))]) (st2 := [az_i ((zwU (zwB S 0 b) (6 * (zB S b 0).toNat + (zB S b 1).toNat) (zmn (zwB S 0 b (6 * (zB S b 0).toNat + (zB S b 1).toNat)) (zln S 0 b))) ((6 * (zB S b 0).toNat) + (zB S b 1).toNat)), az_i (((6 * (((zB S b 1).toNat : Nat) : Int)) + (((zB S b 0).toNat : Nat) : Int))), az_r (34 + e.length)]) (s2 := am_up t13 (34 + e.length) (6 * (zB S b 0).toNat + (zB S b 1).toNat) (zmn (zwB S 0 b (6 * (zB S b 0).toNat + (zB S b 1).toNat)) (zln S 0 b))) (by rw [r7]; rfl) ?_
      refine bz_st 131 rfl hk9 (by constructor <;> omega) ⟨by decide, rfl⟩ ?_
      have r6 : (am_up (am_up t13 (34 + e.length) (6 * (zB S b 0).toNat + (zB S b 1).toNat) (zmn (zwB S 0 b (6 * (zB S b 0).toNat + (zB S b 1).toNat)) (zln S 0 b))) (34 + e.length) (6 * (zB S b 1).toNat + (zB S b 0).toNat) ((zwU (zwB S 0 b) (6 * (zB S b 0).toNat + (zB S b 1).toNat) (zmn (zwB S 0 b (6 * (zB S b 0).toNat + (zB S b 1).toNat)) (zln S 0 b))) (6 * (zB S b 0).toNat + (zB S b 1).toNat))) (34 + e.length) = zwB S 0 (b + 1) := by rw [am_up_row, r7, zwU_at]; rfl
      have K6 := zKx_up (i := 34 + e.length) (j := (6 * (zB S b 1).toNat + (zB S b 0).toNat)) (v := (zwU (zwB S 0 b) (6 * (zB S b 0).toNat + (zB S b 1).toNat) (zmn (zwB S 0 b (6 * (zB S b 0).toNat + (zB S b 1).toNat)) (zln S 0 b))) (6 * (zB S b 0).toNat + (zB S b 1).toNat)) K7 (Nat.le_refl _) (by omega)
      refine bz_to 0 (pc2 := 131) (lv2 := [some (az_r (0)), some (az_i (0)), some (az_r (34 + e.length)), some (az_i (((b : Nat) : Int))), some (az_i ((((zB S b 0).toNat : Nat) : Int))), some (az_i ((((zB S b 1).toNat : Nat) : Int))), some (az_i (zln S 0 b))]) (st2 := []) (s2 := am_up (am_up t13 (34 + e.length) (6 * (zB S b 0).toNat + (zB S b 1).toNat) (zmn (zwB S 0 b (6 * (zB S b 0).toNat + (zB S b 1).toNat)) (zln S 0 b))) (34 + e.length) (6 * (zB S b 1).toNat + (zB S b 0).toNat) ((zwU (zwB S 0 b) (6 * (zB S b 0).toNat + (zB S b 1).toNat) (zmn (zwB S 0 b (6 * (zB S b 0).toNat + (zB S b 1).toNat)) (zln S 0 b))) (6 * (zB S b 0).toNat + (zB S b 1).toNat))) (rfl) ?_
      refine bz_to 2 (pc2 := 42) (lv2 := [some (az_r (0)), some (az_i (0)), some (az_r (34 + e.length)), some (az_i ((((b : Nat) : Int) + 1))), some (az_i ((((zB S b 0).toNat : Nat) : Int))), some (az_i ((((zB S b 1).toNat : Nat) : Int))), some (az_i (zln S 0 b))]) (st2 := []) (s2 := am_up (am_up t13 (34 + e.length) (6 * (zB S b 0).toNat + (zB S b 1).toNat) (zmn (zwB S 0 b (6 * (zB S b 0).toNat + (zB S b 1).toNat)) (zln S 0 b))) (34 + e.length) (6 * (zB S b 1).toNat + (zB S b 0).toNat) ((zwU (zwB S 0 b) (6 * (zB S b 0).toNat + (zB S b 1).toNat) (zmn (zwB S 0 b (6 * (zB S b 0).toNat + (zB S b 1).toNat)) (zln S 0 b))) (6 * (zB S b 0).toNat + (zB S b 1).toNat))) (rfl) ?_
      exact ih _ (by omega) (b + 1) _ _ _ rfl (by omega) K6 r6
set_option maxRecDepth 100000 in
set_option maxHeartbeats 1600000 in
theorem lb_ways0_0 {L : Nat} {xs : Nat → Int32} {tx : Nat → Option String} (htx : ∀ i t, am_sx[i]? = some t → tx i = some t) {d : Nat} (hd : 14 ≤ d) {s : az_S} {S : zR} {h c : Nat} {G : Nat → zR} (H : zkS s S h c G) (hh : h ≤ 10000) {e : List Nat} {N M : Nat} (hk9 : (e ++ [36])[e.length]? = some 36) : ∀ (mq k : Nat), mq = 36 - k → k ≤ 36 → ∀ {u : az_S}, zKx s u (34 + e.length) → u (34 + e.length) = zw0 k → bz_R L xs tx d am_m_L_ways 7 [some (az_r 0), some (az_i 0), some (az_r (34 + e.length)), some (az_i ((k : Nat) : Int)), none, none, none] [] (e ++ [36]) u N M (fun o e2 t => o = .inl (some (az_r (34 + e.length))) ∧ e2 = e ++ [36] ∧ zKx s t (34 + e.length) ∧ t (34 + e.length) = zfw S 0 6) := by
  intro mq
  induction mq using Nat.strongRecOn with
  | _ mq ih =>
    intro k hm hk u K0 hr
    subst hm
    refine bz_to 2 (pc2 := 10) (lv2 := [some (az_r (0)), some (az_i (0)), some (az_r (34 + e.length)), some (az_i (((k : Nat) : Int))), none, none, none]) (st2 := [az_i (36), az_i (((k : Nat) : Int))]) (s2 := u) (rfl) ?_
    refine bz_if2 40 13 rfl (by decide) (by first | assumption | exact ⟨by omega, by omega⟩) ⟨by decide, by decide⟩ (fun h1 => ?_) (fun h1 => ?_)
    · have h1 : 36 ≤ ((k : Nat) : Int) := h1
      refine bz_to 2 (pc2 := 42) (lv2 := [some (az_r (0)), some (az_i (0)), some (az_r (34 + e.length)), some (az_i (0)), none, none, none]) (st2 := []) (s2 := u) (rfl) ?_
      have z1 : k = 36 := by omega
      subst z1
      exact lb_ways0_B htx hd H hh hk9 _ 0 _ _ _ rfl (by omega) K0 hr
    · have h1 : ¬ (36 ≤ ((k : Nat) : Int)) := h1
      refine bz_to 4 (pc2 := 18) (lv2 := [some (az_r (0)), some (az_i (0)), some (az_r (34 + e.length)), some (az_i (((k : Nat) : Int))), none, none, none]) (st2 := [az_i (6), az_i (((k : Nat) : Int)), az_i (((k : Nat) : Int)), az_r (34 + e.length)]) (s2 := u) (rfl) ?_
      refine bz_div 19 rfl (by constructor <;> omega) (by constructor <;> omega) rfl ?_
      refine bz_to 0 (pc2 := 19) (lv2 := [some (az_r (0)), some (az_i (0)), some (az_r (34 + e.length)), some (az_i (((k : Nat) : Int))), none, none, none]) (st2 := [az_i ((((k / 6) : Nat) : Int)), az_i (((k : Nat) : Int)), az_r (34 + e.length)]) (s2 := u) (rfl) ?_
      refine bz_to 2 (pc2 := 22) (lv2 := [some (az_r (0)), some (az_i (0)), some (az_r (34 + e.length)), some (az_i (((k : Nat) : Int))), none, none, none]) (st2 := [az_i (6), az_i (((k : Nat) : Int)), az_i ((((k / 6) : Nat) : Int)), az_i (((k : Nat) : Int)), az_r (34 + e.length)]) (s2 := u) (rfl) ?_
      refine bz_rem 23 rfl (by constructor <;> omega) (by constructor <;> omega) rfl ?_
      refine bz_to 0 (pc2 := 23) (lv2 := [some (az_r (0)), some (az_i (0)), some (az_r (34 + e.length)), some (az_i (((k : Nat) : Int))), none, none, none]) (st2 := [az_i ((((k % 6) : Nat) : Int)), az_i ((((k / 6) : Nat) : Int)), az_i (((k : Nat) : Int)), az_r (34 + e.length)]) (s2 := u) (rfl) ?_
      refine bz_if2 30 26 rfl (by decide) (by first | assumption | exact ⟨by omega, by omega⟩) (by first | assumption | exact ⟨by omega, by omega⟩) (fun h2 => ?_) (fun h2 => ?_)
      · have h2 : ¬ (((k / 6) : Nat) : Int) = (((k % 6) : Nat) : Int) := h2
        refine bz_to 1 (pc2 := 33) (lv2 := [some (az_r (0)), some (az_i (0)), some (az_r (34 + e.length)), some (az_i (((k : Nat) : Int))), none, none, none]) (st2 := [az_i (9999), az_i (((k : Nat) : Int)), az_r (34 + e.length)]) (s2 := u) (rfl) ?_
        refine bz_st 34 rfl hk9 (by constructor <;> omega) ⟨by decide, rfl⟩ ?_
        have K8 := zKx_up (i := 34 + e.length) (j := k) (v := 9999) K0 (Nat.le_refl _) (by omega)
        have r8 := zw0_s hr (x := 9999) (by rw [if_neg (by omega)])
        refine bz_to 0 (pc2 := 34) (lv2 := [some (az_r (0)), some (az_i (0)), some (az_r (34 + e.length)), some (az_i (((k : Nat) : Int))), none, none, none]) (st2 := []) (s2 := am_up u (34 + e.length) k (9999)) (rfl) ?_
        refine bz_to 2 (pc2 := 7) (lv2 := [some (az_r (0)), some (az_i (0)), some (az_r (34 + e.length)), some (az_i ((((k : Nat) : Int) + 1))), none, none, none]) (st2 := []) (s2 := am_up u (34 + e.length) k (9999)) (rfl) ?_
        exact ih _ (by omega) (k + 1) rfl (by omega) K8 r8
      · have h2 : (((k / 6) : Nat) : Int) = (((k % 6) : Nat) : Int) := Decidable.not_not.mp h2
        refine bz_to 2 (pc2 := 33) (lv2 := [some (az_r (0)), some (az_i (0)), some (az_r (34 + e.length)), some (az_i (((k : Nat) : Int))), none, none, none]) (st2 := [az_i (0), az_i (((k : Nat) : Int)), az_r (34 + e.length)]) (s2 := u) (rfl) ?_
        refine bz_st 34 rfl hk9 (by constructor <;> omega) ⟨by decide, rfl⟩ ?_
        have K8 := zKx_up (i := 34 + e.length) (j := k) (v := 0) K0 (Nat.le_refl _) (by omega)
        have r8 := zw0_s hr (x := 0) (by rw [if_pos (by omega)])
        refine bz_to 0 (pc2 := 34) (lv2 := [some (az_r (0)), some (az_i (0)), some (az_r (34 + e.length)), some (az_i (((k : Nat) : Int))), none, none, none]) (st2 := []) (s2 := am_up u (34 + e.length) k (0)) (rfl) ?_
        refine bz_to 2 (pc2 := 7) (lv2 := [some (az_r (0)), some (az_i (0)), some (az_r (34 + e.length)), some (az_i ((((k : Nat) : Int) + 1))), none, none, none]) (st2 := []) (s2 := am_up u (34 + e.length) k (0)) (rfl) ?_
        exact ih _ (by omega) (k + 1) rfl (by omega) K8 r8
set_option maxRecDepth 100000 in
theorem lb_ways0 {L : Nat} {xs : Nat → Int32} {tx : Nat → Option String} (htx : ∀ i t, am_sx[i]? = some t → tx i = some t) {d : Nat} (hd : 14 ≤ d) {s : az_S} {S : zR} {h c : Nat} {G : Nat → zR} (H : zkS s S h c G) (hh : h ≤ 10000) {e : List Nat} {N M : Nat} (hN : 1 ≤ N) (hM : 36 ≤ M) : bz_R L xs tx d am_m_L_ways 0 (az_ini (am_mL am_m_L_ways) [az_r 0, az_i 0]) [] e s N M (fun o e2 t => o = .inl (some (az_r (34 + e.length))) ∧ e2 = e ++ [36] ∧ zKx s t (34 + e.length) ∧ t (34 + e.length) = zfw S 0 6) := by
  refine bz_to 0 (pc2 := 0) (lv2 := [some (az_r (0)), some (az_i (0)), none, none, none, none, none]) (st2 := []) (s2 := s) (rfl) ?_
  refine bz_to 1 (pc2 := 2) (lv2 := [some (az_r (0)), some (az_i (0)), none, none, none, none, none]) (st2 := [az_i (36)]) (s2 := s) (rfl) ?_
  refine bz_new (n := 36) 4 (N - 1) (M - 36) rfl ⟨by omega, rfl⟩ ⟨by omega, by omega⟩ ?_
  refine bz_to 0 (pc2 := 4) (lv2 := [some (az_r (0)), some (az_i (0)), none, none, none, none, none]) (st2 := [az_r (34 + e.length)]) (s2 := am_ur s (34 + e.length) (fun _ => 0)) (rfl) ?_
  refine bz_to 3 (pc2 := 7) (lv2 := [some (az_r (0)), some (az_i (0)), some (az_r (34 + e.length)), some (az_i (0)), none, none, none]) (st2 := []) (s2 := am_ur s (34 + e.length) (fun _ => 0)) (rfl) ?_
  exact lb_ways0_0 htx hd H hh (by simp) 36 0 rfl (by omega) (zKx_ur (zKx_r s _) (Nat.le_refl _) (by omega)) (by rw [zw0_0]; exact am_ur_row _ _ _)
set_option maxRecDepth 100000 in
set_option maxHeartbeats 1600000 in
theorem lb_ways1_I {L : Nat} {xs : Nat → Int32} {tx : Nat → Option String} (htx : ∀ i t, am_sx[i]? = some t → tx i = some t) {d : Nat} (hd : 14 ≤ d) {s : az_S} {S : zR} {h c : Nat} {G : Nat → zR} (H : zkS s S h c G) (hh : h ≤ 10000) {e : List Nat} {N M : Nat} (hk9 : (e ++ [36])[e.length]? = some 36) : ∀ (mq o k : Nat) (x5 x6 : Option az_V), mq = 38 * (6 - o) - k → o < 6 → k ≤ 36 → ∀ {u : az_S}, zKx s u (34 + e.length) → u (34 + e.length) = zfP o (zfw S 1 o) k → bz_R L xs tx d am_m_L_ways 148 [some (az_r 0), some (az_i 1), some (az_r (34 + e.length)), some (az_i ((o : Nat) : Int)), some (az_i ((k : Nat) : Int)), x5, x6] [] (e ++ [36]) u N M (fun o e2 t => o = .inl (some (az_r (34 + e.length))) ∧ e2 = e ++ [36] ∧ zKx s t (34 + e.length) ∧ t (34 + e.length) = zfw S 1 6) := by
  intro mq
  induction mq using Nat.strongRecOn with
  | _ mq ih =>
    intro o k x5 x6 hm ho hk u K0 hr
    subst hm
    refine bz_to 2 (pc2 := 152) (lv2 := [some (az_r (0)), some (az_i (1)), some (az_r (34 + e.length)), some (az_i (((o : Nat) : Int))), some (az_i (((k : Nat) : Int))), x5, x6]) (st2 := [az_i (36), az_i (((k : Nat) : Int))]) (s2 := u) (rfl) ?_
    refine bz_if2 197 155 rfl (by decide) (by first | assumption | exact ⟨by omega, by omega⟩) ⟨by decide, by decide⟩ (fun h1 => ?_) (fun h1 => ?_)
    · have h1 : 36 ≤ ((k : Nat) : Int) := h1
      refine bz_to 2 (pc2 := 139) (lv2 := [some (az_r (0)), some (az_i (1)), some (az_r (34 + e.length)), some (az_i ((((o : Nat) : Int) + 1))), some (az_i (((k : Nat) : Int))), x5, x6]) (st2 := []) (s2 := u) (rfl) ?_
      have z1 : k = 36 := by omega
      subst z1
      have r9 : u (34 + e.length) = zfw S 1 (o + 1) := by rw [hr, zfP_e]; rfl
      refine bz_to 0 (pc2 := 139) (lv2 := [some (az_r (0)), some (az_i (1)), some (az_r (34 + e.length)), some (az_i ((((o : Nat) : Int) + 1))), some (az_i (36)), x5, x6]) (st2 := []) (s2 := u) (rfl) ?_
      refine bz_to 2 (pc2 := 142) (lv2 := [some (az_r (0)), some (az_i (1)), some (az_r (34 + e.length)), some (az_i ((((o : Nat) : Int) + 1))), some (az_i (36)), x5, x6]) (st2 := [az_i (6), az_i ((((o : Nat) : Int) + 1))]) (s2 := u) (rfl) ?_
      refine bz_if2 203 145 rfl (by decide) (by first | assumption | exact ⟨by omega, by omega⟩) ⟨by decide, by decide⟩ (fun h2 => ?_) (fun h2 => ?_)
      · have h2 : 6 ≤ (((o : Nat) : Int) + 1) := h2
        refine bz_to 1 (pc2 := 204) (lv2 := [some (az_r (0)), some (az_i (1)), some (az_r (34 + e.length)), some (az_i ((((o : Nat) : Int) + 1))), some (az_i (36)), x5, x6]) (st2 := [az_r (34 + e.length)]) (s2 := u) (rfl) ?_
        refine bz_retA rfl rfl (Or.inr ⟨_, rfl⟩) ⟨rfl, rfl, K0, ?_⟩
        rw [r9, show o + 1 = 6 from by omega]
      · have h2 : ¬ (6 ≤ (((o : Nat) : Int) + 1)) := h2
        refine bz_to 2 (pc2 := 148) (lv2 := [some (az_r (0)), some (az_i (1)), some (az_r (34 + e.length)), some (az_i ((((o : Nat) : Int) + 1))), some (az_i (0)), x5, x6]) (st2 := []) (s2 := u) (rfl) ?_
        exact ih _ (by omega) (o + 1) 0 _ _ rfl (by omega) (by omega) K0 (by rw [r9, zfP_0])
    · have h1 : ¬ (36 ≤ ((k : Nat) : Int)) := h1
      have hI9 := (zfw_I (zkS_R H).2.1 hh 1 o (by omega)).1
      obtain ⟨e1, e2, e3⟩ := zfP_k (k := k) (by omega) (by omega) hI9
      have f1 := hI9.2.1 k (by omega)
      have f2 := hI9.2.1 (k / 6 * 6 + o) (by omega)
      have f3 := hI9.2.1 (6 * o + k % 6) (by omega)
      refine bz_to 4 (pc2 := 161) (lv2 := [some (az_r (0)), some (az_i (1)), some (az_r (34 + e.length)), some (az_i (((o : Nat) : Int))), some (az_i (((k : Nat) : Int))), x5, x6]) (st2 := [az_i (((k : Nat) : Int)), az_r (34 + e.length), az_i (((k : Nat) : Int)), az_r (34 + e.length)]) (s2 := u) (rfl) ?_
      refine bz_ld 162 rfl hk9 (by constructor <;> omega) ⟨by decide, rfl⟩ ?_
      refine bz_to 0 (pc2 := 162) (lv2 := [some (az_r (0)), some (az_i (1)), some (az_r (34 + e.length)), some (az_i (((o : Nat) : Int))), some (az_i (((k : Nat) : Int))), x5, x6]) (st2 := [az_i (u (34 + e.length) k), az_i (((k : Nat) : Int)), az_r (34 + e.length)]) (s2 := u) (rfl) ?_
      refine bz_to 0 (pc2 := 162) (lv2 := [some (az_r (0)), some (az_i (1)), some (az_r (34 + e.length)), some (az_i (((o : Nat) : Int))), some (az_i (((k : Nat) : Int))), x5, x6]) (st2 := [az_i ((zfP o (zfw S 1 o) k) k), az_i (((k : Nat) : Int)), az_r (34 + e.length)]) (s2 := u) (by rw [hr]; rfl) ?_
      refine bz_to 3 (pc2 := 167) (lv2 := [some (az_r (0)), some (az_i (1)), some (az_r (34 + e.length)), some (az_i (((o : Nat) : Int))), some (az_i (((k : Nat) : Int))), x5, x6]) (st2 := [az_i (6), az_i (((k : Nat) : Int)), az_r (34 + e.length), az_i ((zfP o (zfw S 1 o) k) k), az_i (((k : Nat) : Int)), az_r (34 + e.length)]) (s2 := u) (rfl) ?_
      refine bz_div 168 rfl (by constructor <;> omega) (by constructor <;> omega) rfl ?_
      refine bz_to 0 (pc2 := 168) (lv2 := [some (az_r (0)), some (az_i (1)), some (az_r (34 + e.length)), some (az_i (((o : Nat) : Int))), some (az_i (((k : Nat) : Int))), x5, x6]) (st2 := [az_i ((((k / 6) : Nat) : Int)), az_r (34 + e.length), az_i ((zfP o (zfw S 1 o) k) k), az_i (((k : Nat) : Int)), az_r (34 + e.length)]) (s2 := u) (rfl) ?_
      refine bz_to 4 (pc2 := 173) (lv2 := [some (az_r (0)), some (az_i (1)), some (az_r (34 + e.length)), some (az_i (((o : Nat) : Int))), some (az_i (((k : Nat) : Int))), x5, x6]) (st2 := [az_i ((((((k / 6) : Nat) : Int) * 6) + ((o : Nat) : Int))), az_r (34 + e.length), az_i ((zfP o (zfw S 1 o) k) k), az_i (((k : Nat) : Int)), az_r (34 + e.length)]) (s2 := u) (rfl) ?_
      refine bz_ld 174 rfl hk9 (by constructor <;> omega) ⟨by decide, rfl⟩ ?_
      refine bz_to 0 (pc2 := 174) (lv2 := [some (az_r (0)), some (az_i (1)), some (az_r (34 + e.length)), some (az_i (((o : Nat) : Int))), some (az_i (((k : Nat) : Int))), x5, x6]) (st2 := [az_i (u (34 + e.length) (((k / 6) * 6) + o)), az_i ((zfP o (zfw S 1 o) k) k), az_i (((k : Nat) : Int)), az_r (34 + e.length)]) (s2 := u) (rfl) ?_
      refine bz_to 0 (pc2 := 174) (lv2 := [some (az_r (0)), some (az_i (1)), some (az_r (34 + e.length)), some (az_i (((o : Nat) : Int))), some (az_i (((k : Nat) : Int))), x5, x6]) (st2 := [az_i ((zfP o (zfw S 1 o) k) (((k / 6) * 6) + o)), az_i ((zfP o (zfw S 1 o) k) k), az_i (((k : Nat) : Int)), az_r (34 + e.length)]) (s2 := u) (by rw [hr]; rfl) ?_
      refine bz_to 6 (pc2 := 183) (lv2 := [some (az_r (0)), some (az_i (1)), some (az_r (34 + e.length)), some (az_i (((o : Nat) : Int))), some (az_i (((k : Nat) : Int))), x5, x6]) (st2 := [az_i (6), az_i (((k : Nat) : Int)), az_i ((6 * ((o : Nat) : Int))), az_r (34 + e.length), az_i ((zfP o (zfw S 1 o) k) (((k / 6) * 6) + o)), az_i ((zfP o (zfw S 1 o) k) k), az_i (((k : Nat) : Int)), az_r (34 + e.length)]) (s2 := u) (rfl) ?_
      refine bz_rem 184 rfl (by constructor <;> omega) (by constructor <;> omega) rfl ?_
      refine bz_to 0 (pc2 := 184) (lv2 := [some (az_r (0)), some (az_i (1)), some (az_r (34 + e.length)), some (az_i (((o : Nat) : Int))), some (az_i (((k : Nat) : Int))), x5, x6]) (st2 := [az_i ((((k % 6) : Nat) : Int)), az_i ((6 * ((o : Nat) : Int))), az_r (34 + e.length), az_i ((zfP o (zfw S 1 o) k) (((k / 6) * 6) + o)), az_i ((zfP o (zfw S 1 o) k) k), az_i (((k : Nat) : Int)), az_r (34 + e.length)]) (s2 := u) (rfl) ?_
      refine bz_to 1 (pc2 := 185) (lv2 := [some (az_r (0)), some (az_i (1)), some (az_r (34 + e.length)), some (az_i (((o : Nat) : Int))), some (az_i (((k : Nat) : Int))), x5, x6]) (st2 := [az_i (((6 * ((o : Nat) : Int)) + (((k % 6) : Nat) : Int))), az_r (34 + e.length), az_i ((zfP o (zfw S 1 o) k) (((k / 6) * 6) + o)), az_i ((zfP o (zfw S 1 o) k) k), az_i (((k : Nat) : Int)), az_r (34 + e.length)]) (s2 := u) (rfl) ?_
      refine bz_ld 186 rfl hk9 (by constructor <;> omega) ⟨by decide, rfl⟩ ?_
      refine bz_to 0 (pc2 := 186) (lv2 := [some (az_r (0)), some (az_i (1)), some (az_r (34 + e.length)), some (az_i (((o : Nat) : Int))), some (az_i (((k : Nat) : Int))), x5, x6]) (st2 := [az_i (u (34 + e.length) ((6 * o) + (k % 6))), az_i ((zfP o (zfw S 1 o) k) (((k / 6) * 6) + o)), az_i ((zfP o (zfw S 1 o) k) k), az_i (((k : Nat) : Int)), az_r (34 + e.length)]) (s2 := u) (rfl) ?_
      refine bz_to 0 (pc2 := 186) (lv2 := [some (az_r (0)), some (az_i (1)), some (az_r (34 + e.length)), some (az_i (((o : Nat) : Int))), some (az_i (((k : Nat) : Int))), x5, x6]) (st2 := [az_i ((zfP o (zfw S 1 o) k) ((6 * o) + (k % 6))), az_i ((zfP o (zfw S 1 o) k) (((k / 6) * 6) + o)), az_i ((zfP o (zfw S 1 o) k) k), az_i (((k : Nat) : Int)), az_r (34 + e.length)]) (s2 := u) (by rw [hr]; rfl) ?_
      refine bz_to 1 (pc2 := 187) (lv2 := [some (az_r (0)), some (az_i (1)), some (az_r (34 + e.length)), some (az_i (((o : Nat) : Int))), some (az_i (((k : Nat) : Int))), x5, x6]) (st2 := [az_i (((zfP o (zfw S 1 o) k) (((k / 6) * 6) + o) + (zfP o (zfw S 1 o) k) ((6 * o) + (k % 6)))), az_i ((zfP o (zfw S 1 o) k) k), az_i (((k : Nat) : Int)), az_r (34 + e.length)]) (s2 := u) (rfl) ?_
      refine bz_to 0 (pc2 := 187) (lv2 := [some (az_r (0)), some (az_i (1)), some (az_r (34 + e.length)), some (az_i (((o : Nat) : Int))), some (az_i (((k : Nat) : Int))), x5, x6]) (st2 := [az_i ((zfw S 1 o (k / 6 * 6 + o) + zfw S 1 o (6 * o + k % 6))), az_i (zfw S 1 o k), az_i (((k : Nat) : Int)), az_r (34 + e.length)]) (s2 := u) (by rw [show (zfP o (zfw S 1 o) k) (((k / 6) * 6) + o) = zfw S 1 o (k / 6 * 6 + o) from e2, show (zfP o (zfw S 1 o) k) ((6 * o) + (k % 6)) = zfw S 1 o (6 * o + k % 6) from e3, show (zfP o (zfw S 1 o) k) k = zfw S 1 o k from e1]; rfl) ?_
      refine bz_min 190 rfl rfl ⟨rfl, show (2 : Nat) ≤ 8 by decide, rfl⟩ ⟨by omega, by omega⟩ ⟨by omega, by omega⟩ ?_
      refine bz_to 0 (pc2 := 190) (lv2 := [some (az_r (0)), some (az_i (1)), some (az_r (34 + e.length)), some (az_i (((o : Nat) : Int))), some (az_i (((k : Nat) : Int))), x5, x6]) (st2 := [az_i (zmn (zfw S 1 o k) (zfw S 1 o (k / 6 * 6 + o) + zfw S 1 o (6 * o + k % 6))), az_i (((k : Nat) : Int)), az_r (34 + e.length)]) (s2 := u) (rfl) ?_
      refine bz_st 191 rfl hk9 (by constructor <;> omega) ⟨by decide, rfl⟩ ?_
      have K8 := zKx_up (i := 34 + e.length) (j := k) (v := zmn (zfw S 1 o k) (zfw S 1 o (k / 6 * 6 + o) + zfw S 1 o (6 * o + k % 6))) K0 (Nat.le_refl _) (by omega)
      have r8 := zfP_s hr (show k < 36 by omega)
      refine bz_to 0 (pc2 := 191) (lv2 := [some (az_r (0)), some (az_i (1)), some (az_r (34 + e.length)), some (az_i (((o : Nat) : Int))), some (az_i (((k : Nat) : Int))), x5, x6]) (st2 := []) (s2 := am_up u (34 + e.length) k (zmn (zfw S 1 o k) (zfw S 1 o (k / 6 * 6 + o) + zfw S 1 o (6 * o + k % 6)))) (rfl) ?_
      refine bz_to 2 (pc2 := 148) (lv2 := [some (az_r (0)), some (az_i (1)), some (az_r (34 + e.length)), some (az_i (((o : Nat) : Int))), some (az_i ((((k : Nat) : Int) + 1))), x5, x6]) (st2 := []) (s2 := am_up u (34 + e.length) k (zmn (zfw S 1 o k) (zfw S 1 o (k / 6 * 6 + o) + zfw S 1 o (6 * o + k % 6)))) (rfl) ?_
      exact ih _ (by omega) o (k + 1) _ _ rfl (by omega) (by omega) K8 r8
set_option maxRecDepth 100000 in
set_option maxHeartbeats 1600000 in
theorem lb_ways1_B {L : Nat} {xs : Nat → Int32} {tx : Nat → Option String} (htx : ∀ i t, am_sx[i]? = some t → tx i = some t) {d : Nat} (hd : 14 ≤ d) {s : az_S} {S : zR} {h c : Nat} {G : Nat → zR} (H : zkS s S h c G) (hh : h ≤ 10000) {e : List Nat} {N M : Nat} (hk9 : (e ++ [36])[e.length]? = some 36) : ∀ (mq b : Nat) (x4 x5 x6 : Option az_V), mq = zn S 0 - b → b ≤ zn S 0 → ∀ {u : az_S}, zKx s u (34 + e.length) → u (34 + e.length) = zwB S 1 b → bz_R L xs tx d am_m_L_ways 42 [some (az_r 0), some (az_i 1), some (az_r (34 + e.length)), some (az_i ((b : Nat) : Int)), x4, x5, x6] [] (e ++ [36]) u N M (fun o e2 t => o = .inl (some (az_r (34 + e.length))) ∧ e2 = e ++ [36] ∧ zKx s t (34 + e.length) ∧ t (34 + e.length) = zfw S 1 6) := by
  have hn := zn_le (zkS_R H).2.1
  intro mq
  induction mq using Nat.strongRecOn with
  | _ mq ih =>
    intro b x4 x5 x6 hm hb u K0 hr
    subst hm
    refine bz_to 3 (pc2 := 45) (lv2 := [some (az_r (0)), some (az_i (1)), some (az_r (34 + e.length)), some (az_i (((b : Nat) : Int))), x4, x5, x6]) (st2 := [az_i (0), az_r (0), az_i (((b : Nat) : Int))]) (s2 := u) (rfl) ?_
    refine bz_q (v := zlA S c 0) (m2 := am_m_X9_account) (as := [az_r (0), az_i (0)]) (rest := [az_i (((b : Nat) : Int))]) htx 48 rfl rfl rfl (by omega) (lk_account (zkS_x H K0) hh (by omega) (by constructor <;> omega)) (fun t17 q18 => ?_)
    have K19 := zKx_q K0 q18
    have r20 : t17 (34 + e.length) = zwB S 1 b := (q18.2 _ (by omega)).trans hr
    refine bz_to 0 (pc2 := 48) (lv2 := [some (az_r (0)), some (az_i (1)), some (az_r (34 + e.length)), some (az_i (((b : Nat) : Int))), x4, x5, x6]) (st2 := [az_i (zlA S c 0), az_i (((b : Nat) : Int))]) (s2 := t17) (rfl) ?_
    refine bz_to 0 (pc2 := 48) (lv2 := [some (az_r (0)), some (az_i (1)), some (az_r (34 + e.length)), some (az_i (((b : Nat) : Int))), x4, x5, x6]) (st2 := [az_i (((zn S 0 : Nat) : Int)), az_i (((b : Nat) : Int))]) (s2 := t17) (rfl) ?_
    refine bz_if2 137 51 rfl (by decide) (by first | assumption | exact ⟨by omega, by omega⟩) (by first | assumption | exact ⟨by omega, by omega⟩) (fun h1 => ?_) (fun h1 => ?_)
    · have h1 : ((zn S 0 : Nat) : Int) ≤ ((b : Nat) : Int) := h1
      refine bz_to 2 (pc2 := 139) (lv2 := [some (az_r (0)), some (az_i (1)), some (az_r (34 + e.length)), some (az_i (0)), x4, x5, x6]) (st2 := []) (s2 := t17) (rfl) ?_
      have z1 : b = zn S 0 := by omega
      have r9 : t17 (34 + e.length) = zfw S 1 0 := by rw [r20, z1]; rfl
      refine bz_to 2 (pc2 := 142) (lv2 := [some (az_r (0)), some (az_i (1)), some (az_r (34 + e.length)), some (az_i (0)), x4, x5, x6]) (st2 := [az_i (6), az_i (0)]) (s2 := t17) (rfl) ?_
      refine bz_if2 203 145 rfl (by decide) ⟨by decide, by decide⟩ ⟨by decide, by decide⟩ (fun h9 => absurd h9 (by unfold az_cnd; decide)) (fun _ => ?_)
      refine bz_to 2 (pc2 := 148) (lv2 := [some (az_r (0)), some (az_i (1)), some (az_r (34 + e.length)), some (az_i (0)), some (az_i (0)), x5, x6]) (st2 := []) (s2 := t17) (rfl) ?_
      exact lb_ways1_I htx hd H hh hk9 _ 0 0 _ _ rfl (by omega) (by omega) K19 (by rw [r9, zfP_0])
    · have h1 : ¬ (((zn S 0 : Nat) : Int) ≤ ((b : Nat) : Int)) := h1
      have hz := zI_b (zkS_R H).2.1 hh (b := b) (by omega)
      have c0 : (((zB S b 0).toNat : Nat) : Int) = zB S b 0 := Int.toNat_of_nonneg (by omega)
      have c1 : (((zB S b 1).toNat : Nat) : Int) = zB S b 1 := Int.toNat_of_nonneg (by omega)
      have hB := (zwB_I (zkS_R H).2.1 hh 1 b (by omega)).1.2.1 (6 * (zB S b 0).toNat + (zB S b 1).toNat) (by omega)
      have hl := zln_r (zkS_R H).2.1 hh (m := 1) (b := b) (by omega)
      refine bz_to 3 (pc2 := 54) (lv2 := [some (az_r (0)), some (az_i (1)), some (az_r (34 + e.length)), some (az_i (((b : Nat) : Int))), x4, x5, x6]) (st2 := [az_i (0), az_i (((b : Nat) : Int)), az_r (0)]) (s2 := t17) (rfl) ?_
      refine bz_q (v := zlB S ((b : Nat) : Int) 0) (m2 := am_m_X9_bridgeOf) (as := [az_r (0), az_i (((b : Nat) : Int)), az_i (0)]) (rest := []) htx 57 rfl rfl rfl (by omega) (lk_bridgeOf (zkS_x H K19) hh (by omega) (by constructor <;> omega) (by constructor <;> omega)) (fun t21 q22 => ?_)
      have K23 := zKx_q K19 q22
      have r24 : t21 (34 + e.length) = zwB S 1 b := (q22.2 _ (by omega)).trans r20
      refine bz_to 0 (pc2 := 57) (lv2 := [some (az_r (0)), some (az_i (1)), some (az_r (34 + e.length)), some (az_i (((b : Nat) : Int))), x4, x5, x6]) (st2 := [az_i (zlB S ((b : Nat) : Int) 0)]) (s2 := t21) (rfl) ?_
      refine bz_to 0 (pc2 := 57) (lv2 := [some (az_r (0)), some (az_i (1)), some (az_r (34 + e.length)), some (az_i (((b : Nat) : Int))), x4, x5, x6]) (st2 := [az_i (zB S b 0)]) (s2 := t21) (by rw [zlB_v0 (by omega)]; rfl) ?_
      refine bz_to 0 (pc2 := 57) (lv2 := [some (az_r (0)), some (az_i (1)), some (az_r (34 + e.length)), some (az_i (((b : Nat) : Int))), x4, x5, x6]) (st2 := [az_i ((((zB S b 0).toNat : Nat) : Int))]) (s2 := t21) (by rw [c0]; rfl) ?_
      refine bz_to 4 (pc2 := 62) (lv2 := [some (az_r (0)), some (az_i (1)), some (az_r (34 + e.length)), some (az_i (((b : Nat) : Int))), some (az_i ((((zB S b 0).toNat : Nat) : Int))), x5, x6]) (st2 := [az_i (1), az_i (((b : Nat) : Int)), az_r (0)]) (s2 := t21) (rfl) ?_
      refine bz_q (v := zlB S ((b : Nat) : Int) 1) (m2 := am_m_X9_bridgeOf) (as := [az_r (0), az_i (((b : Nat) : Int)), az_i (1)]) (rest := []) htx 65 rfl rfl rfl (by omega) (lk_bridgeOf (zkS_x H K23) hh (by omega) (by constructor <;> omega) (by constructor <;> omega)) (fun t25 q26 => ?_)
      have K27 := zKx_q K23 q26
      have r28 : t25 (34 + e.length) = zwB S 1 b := (q26.2 _ (by omega)).trans r24
      refine bz_to 0 (pc2 := 65) (lv2 := [some (az_r (0)), some (az_i (1)), some (az_r (34 + e.length)), some (az_i (((b : Nat) : Int))), some (az_i ((((zB S b 0).toNat : Nat) : Int))), x5, x6]) (st2 := [az_i (zlB S ((b : Nat) : Int) 1)]) (s2 := t25) (rfl) ?_
      refine bz_to 0 (pc2 := 65) (lv2 := [some (az_r (0)), some (az_i (1)), some (az_r (34 + e.length)), some (az_i (((b : Nat) : Int))), some (az_i ((((zB S b 0).toNat : Nat) : Int))), x5, x6]) (st2 := [az_i (zB S b 1)]) (s2 := t25) (by rw [zlB_v1 (by omega)]; rfl) ?_
      refine bz_to 0 (pc2 := 65) (lv2 := [some (az_r (0)), some (az_i (1)), some (az_r (34 + e.length)), some (az_i (((b : Nat) : Int))), some (az_i ((((zB S b 0).toNat : Nat) : Int))), x5, x6]) (st2 := [az_i ((((zB S b 1).toNat : Nat) : Int))]) (s2 := t25) (by rw [c1]; rfl) ?_
      refine bz_to 2 (pc2 := 68) (lv2 := [some (az_r (0)), some (az_i (1)), some (az_r (34 + e.length)), some (az_i (((b : Nat) : Int))), some (az_i ((((zB S b 0).toNat : Nat) : Int))), some (az_i ((((zB S b 1).toNat : Nat) : Int))), x6]) (st2 := [az_i (1)]) (s2 := t25) (rfl) ?_
      refine bz_ifc 79 71 rfl (by decide) ⟨by decide, by decide⟩ (fun h9 => absurd h9 (by unfold az_cnd; decide)) (fun _ => ?_)
      refine bz_to 2 (pc2 := 73) (lv2 := [some (az_r (0)), some (az_i (1)), some (az_r (34 + e.length)), some (az_i (((b : Nat) : Int))), some (az_i ((((zB S b 0).toNat : Nat) : Int))), some (az_i ((((zB S b 1).toNat : Nat) : Int))), x6]) (st2 := [az_i (((b : Nat) : Int)), az_r (0)]) (s2 := t25) (rfl) ?_
      refine bz_q (v := ztk S b) (m2 := am_m_X9_takes) (as := [az_r (0), az_i (((b : Nat) : Int))]) (rest := []) htx 76 rfl rfl rfl (by omega) (lk_takes (zkS_x H K27) hh (by omega) (by omega)) (fun t29 q30 => ?_)
      have K31 := zKx_q K27 q30
      have r32 : t29 (34 + e.length) = zwB S 1 b := (q30.2 _ (by omega)).trans r28
      refine bz_to 0 (pc2 := 76) (lv2 := [some (az_r (0)), some (az_i (1)), some (az_r (34 + e.length)), some (az_i (((b : Nat) : Int))), some (az_i ((((zB S b 0).toNat : Nat) : Int))), some (az_i ((((zB S b 1).toNat : Nat) : Int))), x6]) (st2 := [az_i (ztk S b)]) (s2 := t29) (rfl) ?_
      refine bz_to 0 (pc2 := 76) (lv2 := [some (az_r (0)), some (az_i (1)), some (az_r (34 + e.length)), some (az_i (((b : Nat) : Int))), some (az_i ((((zB S b 0).toNat : Nat) : Int))), some (az_i ((((zB S b 1).toNat : Nat) : Int))), x6]) (st2 := [az_i (zln S 1 b)]) (s2 := t29) (rfl) ?_
      refine bz_to 14 (pc2 := 104) (lv2 := [some (az_r (0)), some (az_i (1)), some (az_r (34 + e.length)), some (az_i (((b : Nat) : Int))), some (az_i ((((zB S b 0).toNat : Nat) : Int))), some (az_i ((((zB S b 1).toNat : Nat) : Int))), some (az_i (zln S 1 b))]) (st2 := [az_i (((6 * (((zB S b 0).toNat : Nat) : Int)) + (((zB S b 1).toNat : Nat) : Int))), az_r (34 + e.length), az_i (((6 * (((zB S b 0).toNat : Nat) : Int)) + (((zB S b 1).toNat : Nat) : Int))), az_r (34 + e.length)]) (s2 := t29) (rfl) ?_
      refine bz_ld 105 rfl hk9 (by constructor <;> omega) ⟨by decide, rfl⟩ ?_
      refine bz_to 0 (pc2 := 105) (lv2 := [some (az_r (0)), some (az_i (1)), some (az_r (34 + e.length)), some (az_i (((b : Nat) : Int))), some (az_i ((((zB S b 0).toNat : Nat) : Int))), some (az_i ((((zB S b 1).toNat : Nat) : Int))), some (az_i (zln S 1 b))]) (st2 := [az_i (t29 (34 + e.length) ((6 * (zB S b 0).toNat) + (zB S b 1).toNat)), az_i (((6 * (((zB S b 0).toNat : Nat) : Int)) + (((zB S b 1).toNat : Nat) : Int))), az_r (34 + e.length)]) (s2 := t29) (rfl) ?_
      refine bz_to 0 (pc2 := 105) (lv2 := [some (az_r (0)), some (az_i (1)), some (az_r (34 + e.length)), some (az_i (((b : Nat) : Int))), some (az_i ((((zB S b 0).toNat : Nat) : Int))), some (az_i ((((zB S b 1).toNat : Nat) : Int))), some (az_i (zln S 1 b))]) (st2 := [az_i ((zwB S 1 b) ((6 * (zB S b 0).toNat) + (zB S b 1).toNat)), az_i (((6 * (((zB S b 0).toNat : Nat) : Int)) + (((zB S b 1).toNat : Nat) : Int))), az_r (34 + e.length)]) (s2 := t29) (by rw [r32]; rfl) ?_
      refine bz_to 1 (pc2 := 107) (lv2 := [some (az_r (0)), some (az_i (1)), some (az_r (34 + e.length)), some (az_i (((b : Nat) : Int))), some (az_i ((((zB S b 0).toNat : Nat) : Int))), some (az_i ((((zB S b 1).toNat : Nat) : Int))), some (az_i (zln S 1 b))]) (st2 := [az_i (zln S 1 b), az_i ((zwB S 1 b) ((6 * (zB S b 0).toNat) + (zB S b 1).toNat)), az_i (((6 * (((zB S b 0).toNat : Nat) : Int)) + (((zB S b 1).toNat : Nat) : Int))), az_r (34 + e.length)]) (s2 := t29) (rfl) ?_
      refine bz_min 110 rfl rfl ⟨rfl, show (2 : Nat) ≤ 8 by decide, rfl⟩ ⟨by omega, by omega⟩ ⟨by omega, by omega⟩ ?_
      refine bz_to 0 (pc2 := 110) (lv2 := [some (az_r (0)), some (az_i (1)), some (az_r (34 + e.length)), some (az_i (((b : Nat) : Int))), some (az_i ((((zB S b 0).toNat : Nat) : Int))), some (az_i ((((zB S b 1).toNat : Nat) : Int))), some (az_i (zln S 1 b))]) (st2 := [az_i (zmn (zwB S 1 b (6 * (zB S b 0).toNat + (zB S b 1).toNat)) (zln S 1 b)), az_i (((6 * (((zB S b 0).toNat : Nat) : Int)) + (((zB S b 1).toNat : Nat) : Int))), az_r (34 + e.length)]) (s2 := t29) (rfl) ?_
      refine bz_st 111 rfl hk9 (by constructor <;> omega) ⟨by decide, rfl⟩ ?_
      have K7 := zKx_up (i := 34 + e.length) (j := (6 * (zB S b 0).toNat + (zB S b 1).toNat)) (v := zmn (zwB S 1 b (6 * (zB S b 0).toNat + (zB S b 1).toNat)) (zln S 1 b)) K31 (Nat.le_refl _) (by omega)
      have r7 : (am_up t29 (34 + e.length) (6 * (zB S b 0).toNat + (zB S b 1).toNat) (zmn (zwB S 1 b (6 * (zB S b 0).toNat + (zB S b 1).toNat)) (zln S 1 b))) (34 + e.length) = zwU (zwB S 1 b) (6 * (zB S b 0).toNat + (zB S b 1).toNat) (zmn (zwB S 1 b (6 * (zB S b 0).toNat + (zB S b 1).toNat)) (zln S 1 b)) := by rw [am_up_row, r32]; rfl
      refine bz_to 0 (pc2 := 111) (lv2 := [some (az_r (0)), some (az_i (1)), some (az_r (34 + e.length)), some (az_i (((b : Nat) : Int))), some (az_i ((((zB S b 0).toNat : Nat) : Int))), some (az_i ((((zB S b 1).toNat : Nat) : Int))), some (az_i (zln S 1 b))]) (st2 := []) (s2 := am_up t29 (34 + e.length) (6 * (zB S b 0).toNat + (zB S b 1).toNat) (zmn (zwB S 1 b (6 * (zB S b 0).toNat + (zB S b 1).toNat)) (zln S 1 b))) (rfl) ?_
      refine bz_to 12 (pc2 := 129) (lv2 := [some (az_r (0)), some (az_i (1)), some (az_r (34 + e.length)), some (az_i (((b : Nat) : Int))), some (az_i ((((zB S b 0).toNat : Nat) : Int))), some (az_i ((((zB S b 1).toNat : Nat) : Int))), some (az_i (zln S 1 b))]) (st2 := [az_i (((6 * (((zB S b 0).toNat : Nat) : Int)) + (((zB S b 1).toNat : Nat) : Int))), az_r (34 + e.length), az_i (((6 * (((zB S b 1).toNat : Nat) : Int)) + (((zB S b 0).toNat : Nat) : Int))), az_r (34 + e.length)]) (s2 := am_up t29 (34 + e.length) (6 * (zB S b 0).toNat + (zB S b 1).toNat) (zmn (zwB S 1 b (6 * (zB S b 0).toNat + (zB S b 1).toNat)) (zln S 1 b))) (rfl) ?_
      refine bz_ld 130 rfl hk9 (by constructor <;> omega) ⟨by decide, rfl⟩ ?_
      refine bz_to 0 (pc2 := 130) (lv2 := [some (az_r (0)), some (az_i (1)), some (az_r (34 + e.length)), some (az_i (((b : Nat) : Int))), some (az_i ((((zB S b 0).toNat : Nat) : Int))), some (az_i ((((zB S b 1).toNat : Nat) : Int))), some (az_i (zln S 1 b))]) (st2 := [az_i ((am_up t29 (34 + e.length) (6 * (zB S b 0).toNat + (zB S b 1).toNat) (zmn (zwB S 1 b (6 * (zB S b 0).toNat + (zB S b 1).toNat)) (zln S 1 b))) (34 + e.length) ((6 * (zB S b 0).toNat) + (zB S b 1).toNat)), az_i (((6 * (((zB S b 1).toNat : Nat) : Int)) + (((zB S b 0).toNat : Nat) : Int))), az_r (34 + e.length)]) (s2 := am_up t29 (34 + e.length) (6 * (zB S b 0).toNat + (zB S b 1).toNat) (zmn (zwB S 1 b (6 * (zB S b 0).toNat + (zB S b 1).toNat)) (zln S 1 b))) (rfl) ?_
      refine bz_to 0 (pc2 := 130) (lv2 := [some (az_r (0)), some (az_i (1)), some (az_r (34 + e.length)), some (az_i (((b : Nat) : Int))), some (az_i ((((zB S b 0).toNat : Nat) : Int))), some (az_i ((((zB S b 1).toNat : Nat) : Int))), some (az_i (zln S 1 b))]) (st2 := [az_i ((zwU (zwB S 1 b) (6 * (zB S b 0).toNat + (zB S b 1).toNat) (zmn (zwB S 1 b (6 * (zB S b 0).toNat + (zB S b 1).toNat)) (zln S 1 b))) ((6 * (zB S b 0).toNat) + (zB S b 1).toNat)), az_i (((6 * (((zB S b 1).toNat : Nat) : Int)) + (((zB S b 0).toNat : Nat) : Int))), az_r (34 + e.length)]) (s2 := am_up t29 (34 + e.length) (6 * (zB S b 0).toNat + (zB S b 1).toNat) (zmn (zwB S 1 b (6 * (zB S b 0).toNat + (zB S b 1).toNat)) (zln S 1 b))) (by rw [r7]; rfl) ?_
      refine bz_st 131 rfl hk9 (by constructor <;> omega) ⟨by decide, rfl⟩ ?_
      have r6 : (am_up (am_up t29 (34 + e.length) (6 * (zB S b 0).toNat + (zB S b 1).toNat) (zmn (zwB S 1 b (6 * (zB S b 0).toNat + (zB S b 1).toNat)) (zln S 1 b))) (34 + e.length) (6 * (zB S b 1).toNat + (zB S b 0).toNat) ((zwU (zwB S 1 b) (6 * (zB S b 0).toNat + (zB S b 1).toNat) (zmn (zwB S 1 b (6 * (zB S b 0).toNat + (zB S b 1).toNat)) (zln S 1 b))) (6 * (zB S b 0).toNat + (zB S b 1).toNat))) (34 + e.length) = zwB S 1 (b + 1) := by rw [am_up_row, r7, zwU_at]; rfl
      have K6 := zKx_up (i := 34 + e.length) (j := (6 * (zB S b 1).toNat + (zB S b 0).toNat)) (v := (zwU (zwB S 1 b) (6 * (zB S b 0).toNat + (zB S b 1).toNat) (zmn (zwB S 1 b (6 * (zB S b 0).toNat + (zB S b 1).toNat)) (zln S 1 b))) (6 * (zB S b 0).toNat + (zB S b 1).toNat)) K7 (Nat.le_refl _) (by omega)
      refine bz_to 0 (pc2 := 131) (lv2 := [some (az_r (0)), some (az_i (1)), some (az_r (34 + e.length)), some (az_i (((b : Nat) : Int))), some (az_i ((((zB S b 0).toNat : Nat) : Int))), some (az_i ((((zB S b 1).toNat : Nat) : Int))), some (az_i (zln S 1 b))]) (st2 := []) (s2 := am_up (am_up t29 (34 + e.length) (6 * (zB S b 0).toNat + (zB S b 1).toNat) (zmn (zwB S 1 b (6 * (zB S b 0).toNat + (zB S b 1).toNat)) (zln S 1 b))) (34 + e.length) (6 * (zB S b 1).toNat + (zB S b 0).toNat) ((zwU (zwB S 1 b) (6 * (zB S b 0).toNat + (zB S b 1).toNat) (zmn (zwB S 1 b (6 * (zB S b 0).toNat + (zB S b 1).toNat)) (zln S 1 b))) (6 * (zB S b 0).toNat + (zB S b 1).toNat))) (rfl) ?_
      refine bz_to 2 (pc2 := 42) (lv2 := [some (az_r (0)), some (az_i (1)), some (az_r (34 + e.length)), some (az_i ((((b : Nat) : Int) + 1))), some (az_i ((((zB S b 0).toNat : Nat) : Int))), some (az_i ((((zB S b 1).toNat : Nat) : Int))), some (az_i (zln S 1 b))]) (st2 := []) (s2 := am_up (am_up t29 (34 + e.length) (6 * (zB S b 0).toNat + (zB S b 1).toNat) (zmn (zwB S 1 b (6 * (zB S b 0).toNat + (zB S b 1).toNat)) (zln S 1 b))) (34 + e.length) (6 * (zB S b 1).toNat + (zB S b 0).toNat) ((zwU (zwB S 1 b) (6 * (zB S b 0).toNat + (zB S b 1).toNat) (zmn (zwB S 1 b (6 * (zB S b 0).toNat + (zB S b 1).toNat)) (zln S 1 b))) (6 * (zB S b 0).toNat + (zB S b 1).toNat))) (rfl) ?_
      exact ih _ (by omega) (b + 1) _ _ _ rfl (by omega) K6 r6
set_option maxRecDepth 100000 in
set_option maxHeartbeats 1600000 in
theorem lb_ways1_0 {L : Nat} {xs : Nat → Int32} {tx : Nat → Option String} (htx : ∀ i t, am_sx[i]? = some t → tx i = some t) {d : Nat} (hd : 14 ≤ d) {s : az_S} {S : zR} {h c : Nat} {G : Nat → zR} (H : zkS s S h c G) (hh : h ≤ 10000) {e : List Nat} {N M : Nat} (hk9 : (e ++ [36])[e.length]? = some 36) : ∀ (mq k : Nat), mq = 36 - k → k ≤ 36 → ∀ {u : az_S}, zKx s u (34 + e.length) → u (34 + e.length) = zw0 k → bz_R L xs tx d am_m_L_ways 7 [some (az_r 0), some (az_i 1), some (az_r (34 + e.length)), some (az_i ((k : Nat) : Int)), none, none, none] [] (e ++ [36]) u N M (fun o e2 t => o = .inl (some (az_r (34 + e.length))) ∧ e2 = e ++ [36] ∧ zKx s t (34 + e.length) ∧ t (34 + e.length) = zfw S 1 6) := by
  intro mq
  induction mq using Nat.strongRecOn with
  | _ mq ih =>
    intro k hm hk u K0 hr
    subst hm
    refine bz_to 2 (pc2 := 10) (lv2 := [some (az_r (0)), some (az_i (1)), some (az_r (34 + e.length)), some (az_i (((k : Nat) : Int))), none, none, none]) (st2 := [az_i (36), az_i (((k : Nat) : Int))]) (s2 := u) (rfl) ?_
    refine bz_if2 40 13 rfl (by decide) (by first | assumption | exact ⟨by omega, by omega⟩) ⟨by decide, by decide⟩ (fun h1 => ?_) (fun h1 => ?_)
    · have h1 : 36 ≤ ((k : Nat) : Int) := h1
      refine bz_to 2 (pc2 := 42) (lv2 := [some (az_r (0)), some (az_i (1)), some (az_r (34 + e.length)), some (az_i (0)), none, none, none]) (st2 := []) (s2 := u) (rfl) ?_
      have z1 : k = 36 := by omega
      subst z1
      exact lb_ways1_B htx hd H hh hk9 _ 0 _ _ _ rfl (by omega) K0 hr
    · have h1 : ¬ (36 ≤ ((k : Nat) : Int)) := h1
      refine bz_to 4 (pc2 := 18) (lv2 := [some (az_r (0)), some (az_i (1)), some (az_r (34 + e.length)), some (az_i (((k : Nat) : Int))), none, none, none]) (st2 := [az_i (6), az_i (((k : Nat) : Int)), az_i (((k : Nat) : Int)), az_r (34 + e.length)]) (s2 := u) (rfl) ?_
      refine bz_div 19 rfl (by constructor <;> omega) (by constructor <;> omega) rfl ?_
      refine bz_to 0 (pc2 := 19) (lv2 := [some (az_r (0)), some (az_i (1)), some (az_r (34 + e.length)), some (az_i (((k : Nat) : Int))), none, none, none]) (st2 := [az_i ((((k / 6) : Nat) : Int)), az_i (((k : Nat) : Int)), az_r (34 + e.length)]) (s2 := u) (rfl) ?_
      refine bz_to 2 (pc2 := 22) (lv2 := [some (az_r (0)), some (az_i (1)), some (az_r (34 + e.length)), some (az_i (((k : Nat) : Int))), none, none, none]) (st2 := [az_i (6), az_i (((k : Nat) : Int)), az_i ((((k / 6) : Nat) : Int)), az_i (((k : Nat) : Int)), az_r (34 + e.length)]) (s2 := u) (rfl) ?_
      refine bz_rem 23 rfl (by constructor <;> omega) (by constructor <;> omega) rfl ?_
      refine bz_to 0 (pc2 := 23) (lv2 := [some (az_r (0)), some (az_i (1)), some (az_r (34 + e.length)), some (az_i (((k : Nat) : Int))), none, none, none]) (st2 := [az_i ((((k % 6) : Nat) : Int)), az_i ((((k / 6) : Nat) : Int)), az_i (((k : Nat) : Int)), az_r (34 + e.length)]) (s2 := u) (rfl) ?_
      refine bz_if2 30 26 rfl (by decide) (by first | assumption | exact ⟨by omega, by omega⟩) (by first | assumption | exact ⟨by omega, by omega⟩) (fun h2 => ?_) (fun h2 => ?_)
      · have h2 : ¬ (((k / 6) : Nat) : Int) = (((k % 6) : Nat) : Int) := h2
        refine bz_to 1 (pc2 := 33) (lv2 := [some (az_r (0)), some (az_i (1)), some (az_r (34 + e.length)), some (az_i (((k : Nat) : Int))), none, none, none]) (st2 := [az_i (9999), az_i (((k : Nat) : Int)), az_r (34 + e.length)]) (s2 := u) (rfl) ?_
        refine bz_st 34 rfl hk9 (by constructor <;> omega) ⟨by decide, rfl⟩ ?_
        have K8 := zKx_up (i := 34 + e.length) (j := k) (v := 9999) K0 (Nat.le_refl _) (by omega)
        have r8 := zw0_s hr (x := 9999) (by rw [if_neg (by omega)])
        refine bz_to 0 (pc2 := 34) (lv2 := [some (az_r (0)), some (az_i (1)), some (az_r (34 + e.length)), some (az_i (((k : Nat) : Int))), none, none, none]) (st2 := []) (s2 := am_up u (34 + e.length) k (9999)) (rfl) ?_
        refine bz_to 2 (pc2 := 7) (lv2 := [some (az_r (0)), some (az_i (1)), some (az_r (34 + e.length)), some (az_i ((((k : Nat) : Int) + 1))), none, none, none]) (st2 := []) (s2 := am_up u (34 + e.length) k (9999)) (rfl) ?_
        exact ih _ (by omega) (k + 1) rfl (by omega) K8 r8
      · have h2 : (((k / 6) : Nat) : Int) = (((k % 6) : Nat) : Int) := Decidable.not_not.mp h2
        refine bz_to 2 (pc2 := 33) (lv2 := [some (az_r (0)), some (az_i (1)), some (az_r (34 + e.length)), some (az_i (((k : Nat) : Int))), none, none, none]) (st2 := [az_i (0), az_i (((k : Nat) : Int)), az_r (34 + e.length)]) (s2 := u) (rfl) ?_
        refine bz_st 34 rfl hk9 (by constructor <;> omega) ⟨by decide, rfl⟩ ?_
        have K8 := zKx_up (i := 34 + e.length) (j := k) (v := 0) K0 (Nat.le_refl _) (by omega)
        have r8 := zw0_s hr (x := 0) (by rw [if_pos (by omega)])
        refine bz_to 0 (pc2 := 34) (lv2 := [some (az_r (0)), some (az_i (1)), some (az_r (34 + e.length)), some (az_i (((k : Nat) : Int))), none, none, none]) (st2 := []) (s2 := am_up u (34 + e.length) k (0)) (rfl) ?_
        refine bz_to 2 (pc2 := 7) (lv2 := [some (az_r (0)), some (az_i (1)), some (az_r (34 + e.length)), some (az_i ((((k : Nat) : Int) + 1))), none, none, none]) (st2 := []) (s2 := am_up u (34 + e.length) k (0)) (rfl) ?_
        exact ih _ (by omega) (k + 1) rfl (by omega) K8 r8
set_option maxRecDepth 100000 in
theorem lb_ways1 {L : Nat} {xs : Nat → Int32} {tx : Nat → Option String} (htx : ∀ i t, am_sx[i]? = some t → tx i = some t) {d : Nat} (hd : 14 ≤ d) {s : az_S} {S : zR} {h c : Nat} {G : Nat → zR} (H : zkS s S h c G) (hh : h ≤ 10000) {e : List Nat} {N M : Nat} (hN : 1 ≤ N) (hM : 36 ≤ M) : bz_R L xs tx d am_m_L_ways 0 (az_ini (am_mL am_m_L_ways) [az_r 0, az_i 1]) [] e s N M (fun o e2 t => o = .inl (some (az_r (34 + e.length))) ∧ e2 = e ++ [36] ∧ zKx s t (34 + e.length) ∧ t (34 + e.length) = zfw S 1 6) := by
  refine bz_to 0 (pc2 := 0) (lv2 := [some (az_r (0)), some (az_i (1)), none, none, none, none, none]) (st2 := []) (s2 := s) (rfl) ?_
  refine bz_to 1 (pc2 := 2) (lv2 := [some (az_r (0)), some (az_i (1)), none, none, none, none, none]) (st2 := [az_i (36)]) (s2 := s) (rfl) ?_
  refine bz_new (n := 36) 4 (N - 1) (M - 36) rfl ⟨by omega, rfl⟩ ⟨by omega, by omega⟩ ?_
  refine bz_to 0 (pc2 := 4) (lv2 := [some (az_r (0)), some (az_i (1)), none, none, none, none, none]) (st2 := [az_r (34 + e.length)]) (s2 := am_ur s (34 + e.length) (fun _ => 0)) (rfl) ?_
  refine bz_to 3 (pc2 := 7) (lv2 := [some (az_r (0)), some (az_i (1)), some (az_r (34 + e.length)), some (az_i (0)), none, none, none]) (st2 := []) (s2 := am_ur s (34 + e.length) (fun _ => 0)) (rfl) ?_
  exact lb_ways1_0 htx hd H hh (by simp) 36 0 rfl (by omega) (zKx_ur (zKx_r s _) (Nat.le_refl _) (by omega)) (by rw [zw0_0]; exact am_ur_row _ _ _)
