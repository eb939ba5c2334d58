/-! THE LAW, 13: eight deeds, the end; written by program (wip/p47tools/l73.py) -/
theorem gel {l m : List Nat} {i n : Nat} (h : l[i]? = some n) : (l ++ m)[i]? = some n := by
  have hi : i < l.length := by
    refine Decidable.byContradiction (fun q => ?_)
    rw [List.getElem?_eq_none (by omega)] at h
    cases h
  rw [List.getElem?_append_left hi]
  exact h
theorem gee (l : List Nat) (n : Nat) : (l ++ [n])[l.length]? = some n := by
  rw [List.getElem?_append_right (Nat.le_refl _), Nat.sub_self]
  rfl
theorem gln (l : List Nat) (n : Nat) : (l ++ [n]).length = l.length + 1 := by rw [List.length_append]; rfl
theorem lch_s {s t : az_S} {S S2 : zR} {h h2 : Nat} {v : Int} (P : lch s t S S2 h h2 v) : (-900003 ≤ v ∧ v ≤ 900000) ∧ ((∀ i, 34 ≤ i → t i = s i) ∧ t 21 = s 21 ∧ t 0 5 = s 0 5) ∧ zn S 0 ≤ zn S2 0 ∧ ∃ c2 G2, zkS t S2 h2 c2 G2 := by
  obtain ⟨P1, P2, P3⟩ := P
  rcases P3 with ⟨a1, a2, c2, G2, a3, -⟩ | ⟨a1, a2, -, c2, G2, a3⟩
  · exact ⟨⟨by omega, a2⟩, P1, P2, c2 + 1, G2, a3⟩
  · exact ⟨⟨a1, by omega⟩, P1, P2, c2, G2, a3⟩
theorem ztl_r {S : zR} {h : Nat} (hI : zInv S h) (hh : h ≤ 10000) : 0 ≤ ztl S False ∧ ztl S False ≤ 90 := by
  have hn := zn_le hI
  have := zs_le (n := zn S 0) (f := fun b => if False ∨ ¬ S 3 < zB S b 4 then zB S b 3 else 0) (a := 0) (b := 9) (fun b hb => by
    have := zI_b hI hh hb
    split <;> omega)
  have e : ztl S False = zs (zn S 0) (fun b => if False ∨ ¬ S 3 < zB S b 4 then zB S b 3 else 0) := rfl
  omega
theorem zqw_ri {S : zR} {h : Nat} (hI : zInv S h) (hh : h ≤ 10000) : (-900002 ≤ zqw (zq_richest S 0) ∧ zqw (zq_richest S 0) ≤ 10) ∧ (-900002 ≤ zqw (zq_tired S 0) ∧ zqw (zq_tired S 0) ≤ 10) ∧ (-900002 ≤ zqw (zq_next S) ∧ zqw (zq_next S) ≤ 480048) ∧ (-900002 ≤ zqw (zq_hangs S 1 0) ∧ zqw (zq_hangs S 1 0) ≤ 6) := by
  have hn := zn_le hI
  refine ⟨?_, ?_, ?_, ?_⟩
  · have := zf_lt (fun t => decide (zpt S t = 0)) (zn S 1)
    unfold zqw zq_richest
    split
    · show -900002 ≤ zf _ _ ∧ zf _ _ ≤ 10
      omega
    · decide
  · have := zf_lt (fun t => decide (zpg S t = 0)) (zn S 2)
    unfold zqw zq_tired
    split
    · show -900002 ≤ zf _ _ ∧ zf _ _ ≤ 10
      omega
    · decide
  · have : -1 ≤ zne S ∧ zne S ≤ 480048 := zne2_r hI hh (Nat.le_refl (zn S 0))
    unfold zqw zq_next
    split
    · decide
    · show -900002 ≤ zne S ∧ zne S ≤ 480048
      omega
  · have e : zqw (zq_hangs S 1 0) = (if zqw (zq_way S 1 1 0) < 0 then -900002 else zhg S 1 0) := (zqw_hang hI hh (u := 1) (v := 0) (by decide) (by decide)).1
    have := zhg_r S 1 0
    rw [e]
    split
    · decide
    · omega
theorem zline_r (S : zR) (b : Nat) : (zline S b).length ≤ 12 := by
  unfold zline
  rw [List.length_append, List.length_append, List.length_append]
  have h1 : (if 0 ≤ zat S b then [116, 48 + zat S b] else [] : List Int).length ≤ 2 := by
    split
    · exact Nat.le_refl 2
    · exact Nat.zero_le _
  have h2 : (if S 3 < zB S b 4 then [126] else [] : List Int).length ≤ 1 := by split <;> decide
  have h3 : (if 0 ≤ zB S b 5 then [63] else [] : List Int).length ≤ 1 := by split <;> decide
  have h0 : [48 + (b : Int), 58, 48 + zB S b 0, 48 + zB S b 1, 42, 48 + zB S b 2, 36, 48 + zB S b 3].length = 8 := rfl
  omega
set_option maxRecDepth 100000 in
set_option maxHeartbeats 1600000 in
theorem lr_127 {L : Nat} {xs : Nat → Int32} {tx : Nat → Option String} (htx : ∀ i t, am_sx[i]? = some t → tx i = some t) {d : Nat} (hd : 20 ≤ d) (hL : L < 2147483648) {s : az_S} {S : zR} {h c k : Nat} {G : Nat → zR} {e : List Nat} {N M : Nat} {x3 x4 : Option az_V} (H : zkS s S h c G) (hh : h ≤ 300) (h1n : 1 ≤ zn S 0) (hN : 50 ≤ N) (hM : 1000 ≤ M) : bz_R L xs tx d am_m_L_law 127 [some (az_x 0), some (az_r 0), some (az_i ((k : Nat) : Int)), x3, x4] [] e s N M (fun o _ _ => o = .inl (some (az_i 1))) := by
  have hI := (zkS_R H).2.1
  have hn := zn_le hI
  refine bz_to 1 (pc2 := 128) (lv2 := [some (az_x 0), some (az_r (0)), some (az_i (((k : Nat) : Int))), x3, x4]) (st2 := [az_r (0)]) (s2 := s) (rfl) ?_
  refine bz_w 131 (N1 := 1) (M1 := 180) (N2 := N - 1) (M2 := M - 180) (m2 := am_m_L_seen) (as := [az_r (0)]) (rest := []) rfl rfl rfl ⟨by omega, by omega⟩ (by omega) (lb_seen htx (d := d - 1) (by omega) H (by omega) (e := e) (Nat.le_refl _) (Nat.le_refl _)) (fun v9 e2 t93 q => ?_) (fun E e2 t q => by cases q.1)
  obtain ⟨qa, qb, kx94, kr95⟩ := q
  cases qa
  rw [qb]
  clear qb
  have H96 := zkS_x H kx94
  refine bz_to 0 (pc2 := 131) (lv2 := [some (az_x 0), some (az_r (0)), some (az_i (((k : Nat) : Int))), x3, x4]) (st2 := [az_r (34 + (e).length)]) (s2 := t93) (rfl) ?_
  refine bz_to 2 (pc2 := 133) (lv2 := [some (az_x 0), some (az_r (0)), some (az_r (34 + (e).length)), x3, x4]) (st2 := [az_r (0)]) (s2 := t93) (rfl) ?_
  refine bz_cq htx 136 (m2 := am_m_X9_save) (as := [az_r (0)]) (rest := []) rfl rfl rfl (by omega) (zs_X9_save (by omega) (zkS_R H96).1 (zkS_R H96).2.1 (by omega)) (fun v9 t9 q => ?_) (fun E t q => by cases q.1)
  obtain ⟨qa, qb⟩ := q
  cases qa
  have Hv : zkS t9 S h c G := by
    obtain ⟨z1, z2, z3, z4⟩ := H96
    rw [qb]
    exact ⟨z1, z2, z3, z4⟩
  have k21 : zkk (t9 21) S h := by
    have e21 : t9 21 = va_cpy (t93 3) (t93 21) 0 0 184 := by rw [qb]; rfl
    rw [e21]
    exact zkk_c H96.1 (fun j hj => by rw [va_cpy_i ⟨by omega, by omega⟩]; congr 1; omega)
  have k05 : t9 0 5 = 1 := by rw [qb]; rfl
  have f9 : ∀ i, 34 ≤ i → t9 i = t93 i := fun i hi => by
    rw [qb]
    funext j
    simp only [am_ur, am_up]
    rw [if_neg (by omega), if_neg (by omega)]
  clear qb
  have k97 : t9 (34 + (e).length) = zse S := (f9 _ (by omega)).trans kr95
  refine bz_to 0 (pc2 := 136) (lv2 := [some (az_x 0), some (az_r (0)), some (az_r (34 + (e).length)), x3, x4]) (st2 := [az_i (((zn S 0 : Nat) : Int))]) (s2 := t9) (rfl) ?_
  have hri := zqw_ri hI (by omega)
  have htl := ztl_r hI (by omega)
  have hsh := zsh_16 hI (by omega) (f := 2) (by decide)
  have hli := zline_r S 0
  refine bz_to 3 (pc2 := 139) (lv2 := [some (az_x 0), some (az_r (0)), some (az_r (34 + (e).length)), some (az_i (((zn S 0 : Nat) : Int))), x4]) (st2 := [az_i (0), az_r (0)]) (s2 := t9) (rfl) ?_
  refine bz_q (v := ztl S False) (m2 := am_m_X9_sum) (as := [az_r (0), az_i (0)]) (rest := []) htx 142 rfl rfl rfl (by omega) (lk_sum0 Hv (by omega) (by omega) ) (fun t98 q99 => ?_)
  have H100 := zkS_k Hv q99.1
  have k101 : t98 (34 + (e).length) = zse S := (q99.2 _ (by omega)).trans k97
  refine bz_to 0 (pc2 := 142) (lv2 := [some (az_x 0), some (az_r (0)), some (az_r (34 + (e).length)), some (az_i (((zn S 0 : Nat) : Int))), x4]) (st2 := [az_i (ztl S False)]) (s2 := t98) (rfl) ?_
  have m102 : zkk (t98 21) S h := by rw [q99.1.2.2.2.1]; exact k21
  have m103 : t98 0 5 = 1 := by rw [q99.1.2.2.2.2.2.1]; exact k05
  refine bz_to 2 (pc2 := 144) (lv2 := [some (az_x 0), some (az_r (0)), some (az_r (34 + (e).length)), some (az_i (((zn S 0 : Nat) : Int))), x4]) (st2 := [az_i (0), az_r (0), az_i (ztl S False)]) (s2 := t98) (rfl) ?_
  refine bz_w 147 (N1 := 1) (M1 := 6) (N2 := N - 1 - 1) (M2 := M - 180 - 6) (m2 := am_m_L_richest) (as := [az_r (0), az_i (0)]) (rest := [az_i (ztl S False)]) rfl rfl rfl ⟨by omega, by omega⟩ (by omega) (lw_richest htx (d := d - 1) (by omega) H100 (by omega) (e := (e ++ [180])) (Nat.le_refl _) (Nat.le_refl _) (by constructor <;> omega)) (fun v9 e2 t104 q => ?_) (fun E e2 t q => by cases q.1)
  obtain ⟨qa, qb, q105⟩ := q
  cases qa
  rw [qb]
  clear qb
  have H106 := zkS_k H100 q105.1
  have k107 : t104 (34 + (e).length) = zse S := (q105.2 _ (by omega)).trans k101
  refine bz_to 0 (pc2 := 147) (lv2 := [some (az_x 0), some (az_r (0)), some (az_r (34 + (e).length)), some (az_i (((zn S 0 : Nat) : Int))), x4]) (st2 := [az_i (zqw (zq_richest S 0)), az_i (ztl S False)]) (s2 := t104) (rfl) ?_
  have m108 : zkk (t104 21) S h := by rw [q105.1.2.2.2.1]; exact m102
  have m109 : t104 0 5 = 1 := by rw [q105.1.2.2.2.2.2.1]; exact m103
  refine bz_to 3 (pc2 := 150) (lv2 := [some (az_x 0), some (az_r (0)), some (az_r (34 + (e).length)), some (az_i (((zn S 0 : Nat) : Int))), x4]) (st2 := [az_i (0), az_r (0), az_i ((ztl S False + zqw (zq_richest S 0)))]) (s2 := t104) (rfl) ?_
  refine bz_w 153 (N1 := 1) (M1 := 6) (N2 := N - 1 - 1 - 1) (M2 := M - 180 - 6 - 6) (m2 := am_m_L_tired) (as := [az_r (0), az_i (0)]) (rest := [az_i ((ztl S False + zqw (zq_richest S 0)))]) rfl rfl rfl ⟨by omega, by omega⟩ (by omega) (lw_tired htx (d := d - 1) (by omega) H106 (by omega) (e := (e ++ [180])) (Nat.le_refl _) (Nat.le_refl _) (by constructor <;> omega)) (fun v9 e2 t110 q => ?_) (fun E e2 t q => by cases q.1)
  obtain ⟨qa, qb, q111⟩ := q
  cases qa
  rw [qb]
  clear qb
  have H112 := zkS_k H106 q111.1
  have k113 : t110 (34 + (e).length) = zse S := (q111.2 _ (by omega)).trans k107
  refine bz_to 0 (pc2 := 153) (lv2 := [some (az_x 0), some (az_r (0)), some (az_r (34 + (e).length)), some (az_i (((zn S 0 : Nat) : Int))), x4]) (st2 := [az_i (zqw (zq_tired S 0)), az_i ((ztl S False + zqw (zq_richest S 0)))]) (s2 := t110) (rfl) ?_
  have m114 : zkk (t110 21) S h := by rw [q111.1.2.2.2.1]; exact m108
  have m115 : t110 0 5 = 1 := by rw [q111.1.2.2.2.2.2.1]; exact m109
  refine bz_to 2 (pc2 := 155) (lv2 := [some (az_x 0), some (az_r (0)), some (az_r (34 + (e).length)), some (az_i (((zn S 0 : Nat) : Int))), x4]) (st2 := [az_r (0), az_i (((ztl S False + zqw (zq_richest S 0)) + zqw (zq_tired S 0)))]) (s2 := t110) (rfl) ?_
  refine bz_w 158 (N1 := 1) (M1 := 6) (N2 := N - 1 - 1 - 1 - 1) (M2 := M - 180 - 6 - 6 - 6) (m2 := am_m_L_next) (as := [az_r (0)]) (rest := [az_i (((ztl S False + zqw (zq_richest S 0)) + zqw (zq_tired S 0)))]) rfl rfl rfl ⟨by omega, by omega⟩ (by omega) (lw_next htx (d := d - 1) (by omega) H112 (by omega) (e := (e ++ [180])) (Nat.le_refl _) (Nat.le_refl _) ) (fun v9 e2 t116 q => ?_) (fun E e2 t q => by cases q.1)
  obtain ⟨qa, qb, q117⟩ := q
  cases qa
  rw [qb]
  clear qb
  have H118 := zkS_k H112 q117.1
  have k119 : t116 (34 + (e).length) = zse S := (q117.2 _ (by omega)).trans k113
  refine bz_to 0 (pc2 := 158) (lv2 := [some (az_x 0), some (az_r (0)), some (az_r (34 + (e).length)), some (az_i (((zn S 0 : Nat) : Int))), x4]) (st2 := [az_i (zqw (zq_next S)), az_i (((ztl S False + zqw (zq_richest S 0)) + zqw (zq_tired S 0)))]) (s2 := t116) (rfl) ?_
  have m120 : zkk (t116 21) S h := by rw [q117.1.2.2.2.1]; exact m114
  have m121 : t116 0 5 = 1 := by rw [q117.1.2.2.2.2.2.1]; exact m115
  refine bz_to 3 (pc2 := 161) (lv2 := [some (az_x 0), some (az_r (0)), some (az_r (34 + (e).length)), some (az_i (((zn S 0 : Nat) : Int))), x4]) (st2 := [az_i (2), az_r (0), az_i ((((ztl S False + zqw (zq_richest S 0)) + zqw (zq_tired S 0)) + zqw (zq_next S)))]) (s2 := t116) (rfl) ?_
  refine bz_q (v := ((zsh S 2).length : Int)) (m2 := am_m_X9_show) (as := [az_r (0), az_i (2)]) (rest := [az_i ((((ztl S False + zqw (zq_richest S 0)) + zqw (zq_tired S 0)) + zqw (zq_next S)))]) htx 164 rfl rfl rfl (by omega) (lk_show H118 (by omega) (by omega) (by decide)) (fun t122 q123 => ?_)
  have H124 := zkS_k H118 q123.1
  have k125 : t122 (34 + (e).length) = zse S := (q123.2 _ (by omega)).trans k119
  refine bz_to 0 (pc2 := 164) (lv2 := [some (az_x 0), some (az_r (0)), some (az_r (34 + (e).length)), some (az_i (((zn S 0 : Nat) : Int))), x4]) (st2 := [az_i (((zsh S 2).length : Int)), az_i ((((ztl S False + zqw (zq_richest S 0)) + zqw (zq_tired S 0)) + zqw (zq_next S)))]) (s2 := t122) (rfl) ?_
  have m126 : zkk (t122 21) S h := by rw [q123.1.2.2.2.1]; exact m120
  have m127 : t122 0 5 = 1 := by rw [q123.1.2.2.2.2.2.1]; exact m121
  refine bz_to 3 (pc2 := 167) (lv2 := [some (az_x 0), some (az_r (0)), some (az_r (34 + (e).length)), some (az_i (((zn S 0 : Nat) : Int))), x4]) (st2 := [az_i (0), az_r (0), az_i (((((ztl S False + zqw (zq_richest S 0)) + zqw (zq_tired S 0)) + zqw (zq_next S)) + ((zsh S 2).length : Int)))]) (s2 := t122) (rfl) ?_
  refine bz_q (v := ((zline S 0).length : Int)) (m2 := am_m_X9_tell) (as := [az_r (0), az_i (0)]) (rest := [az_i (((((ztl S False + zqw (zq_richest S 0)) + zqw (zq_tired S 0)) + zqw (zq_next S)) + ((zsh S 2).length : Int)))]) htx 170 rfl rfl rfl (by omega) (lk_tell H124 (by omega) (by omega) (by constructor <;> omega)) (fun t128 q129 => ?_)
  have H130 := zkS_k H124 q129.1
  have k131 : t128 (34 + (e).length) = zse S := (q129.2 _ (by omega)).trans k125
  refine bz_to 0 (pc2 := 170) (lv2 := [some (az_x 0), some (az_r (0)), some (az_r (34 + (e).length)), some (az_i (((zn S 0 : Nat) : Int))), x4]) (st2 := [az_i (((zline S 0).length : Int)), az_i (((((ztl S False + zqw (zq_richest S 0)) + zqw (zq_tired S 0)) + zqw (zq_next S)) + ((zsh S 2).length : Int)))]) (s2 := t128) (rfl) ?_
  have m132 : zkk (t128 21) S h := by rw [q129.1.2.2.2.1]; exact m126
  have m133 : t128 0 5 = 1 := by rw [q129.1.2.2.2.2.2.1]; exact m127
  refine bz_to 4 (pc2 := 174) (lv2 := [some (az_x 0), some (az_r (0)), some (az_r (34 + (e).length)), some (az_i (((zn S 0 : Nat) : Int))), x4]) (st2 := [az_i (0), az_i (1), az_r (0), az_i ((((((ztl S False + zqw (zq_richest S 0)) + zqw (zq_tired S 0)) + zqw (zq_next S)) + ((zsh S 2).length : Int)) + ((zline S 0).length : Int)))]) (s2 := t128) (rfl) ?_
  refine bz_w 177 (N1 := 1) (M1 := 6) (N2 := N - 1 - 1 - 1 - 1 - 1) (M2 := M - 180 - 6 - 6 - 6 - 6) (m2 := am_m_L_hangs) (as := [az_r (0), az_i (1), az_i (0)]) (rest := [az_i ((((((ztl S False + zqw (zq_richest S 0)) + zqw (zq_tired S 0)) + zqw (zq_next S)) + ((zsh S 2).length : Int)) + ((zline S 0).length : Int)))]) rfl rfl rfl ⟨by omega, by omega⟩ (by omega) (lw_hangs htx (d := d - 1) (by omega) H130 (by omega) (e := (e ++ [180])) (Nat.le_refl _) (Nat.le_refl _) (by constructor <;> omega) (by constructor <;> omega)) (fun v9 e2 t134 q => ?_) (fun E e2 t q => by cases q.1)
  obtain ⟨qa, qb, q135⟩ := q
  cases qa
  rw [qb]
  clear qb
  have H136 := zkS_k H130 q135.1
  have k137 : t134 (34 + (e).length) = zse S := (q135.2 _ (by omega)).trans k131
  refine bz_to 0 (pc2 := 177) (lv2 := [some (az_x 0), some (az_r (0)), some (az_r (34 + (e).length)), some (az_i (((zn S 0 : Nat) : Int))), x4]) (st2 := [az_i (zqw (zq_hangs S 1 0)), az_i ((((((ztl S False + zqw (zq_richest S 0)) + zqw (zq_tired S 0)) + zqw (zq_next S)) + ((zsh S 2).length : Int)) + ((zline S 0).length : Int)))]) (s2 := t134) (rfl) ?_
  have m138 : zkk (t134 21) S h := by rw [q135.1.2.2.2.1]; exact m132
  have m139 : t134 0 5 = 1 := by rw [q135.1.2.2.2.2.2.1]; exact m133
  refine bz_to 4 (pc2 := 182) (lv2 := [some (az_x 0), some (az_r (0)), some (az_r (34 + (e).length)), some (az_i (((zn S 0 : Nat) : Int))), some (az_i (((((((ztl S False + zqw (zq_richest S 0)) + zqw (zq_tired S 0)) + zqw (zq_next S)) + ((zsh S 2).length : Int)) + ((zline S 0).length : Int)) + zqw (zq_hangs S 1 0))))]) (st2 := [az_r (0), az_r (34 + (e).length)]) (s2 := t134) (rfl) ?_
  refine bz_w 185 (N1 := 1) (M1 := 180) (N2 := N - 1 - 1 - 1 - 1 - 1 - 1) (M2 := M - 180 - 6 - 6 - 6 - 6 - 180) (m2 := am_m_L_seen) (as := [az_r (0)]) (rest := [az_r (34 + (e).length)]) rfl rfl rfl ⟨by omega, by omega⟩ (by omega) (lb_seen htx (d := d - 1) (by omega) H136 (by omega) (e := (e ++ [180])) (Nat.le_refl _) (Nat.le_refl _)) (fun v9 e2 t140 q => ?_) (fun E e2 t q => by cases q.1)
  obtain ⟨qa, qb, kx141, kr142⟩ := q
  cases qa
  rw [qb]
  clear qb
  have H143 := zkS_x H136 kx141
  have k144 : t140 (34 + (e).length) = zse S := (kx141.2 _ (by omega) (by simp only [gln]; omega)).trans k137
  refine bz_to 0 (pc2 := 185) (lv2 := [some (az_x 0), some (az_r (0)), some (az_r (34 + (e).length)), some (az_i (((zn S 0 : Nat) : Int))), some (az_i (((((((ztl S False + zqw (zq_richest S 0)) + zqw (zq_tired S 0)) + zqw (zq_next S)) + ((zsh S 2).length : Int)) + ((zline S 0).length : Int)) + zqw (zq_hangs S 1 0))))]) (st2 := [az_r (34 + ((e ++ [180])).length), az_r (34 + (e).length)]) (s2 := t140) (rfl) ?_
  have m145 : zkk (t140 21) S h := by rw [kx141.1.2.2.2.1]; exact m138
  have m146 : t140 0 5 = 1 := by rw [kx141.1.2.2.2.2.2.1]; exact m139
  refine bz_w 188 (N1 := 0) (M1 := 0) (N2 := N - 1 - 1 - 1 - 1 - 1 - 1 - 0) (M2 := M - 180 - 6 - 6 - 6 - 6 - 180 - 0) (m2 := am_m_L_areAlike) (as := [az_r (34 + (e).length), az_r (34 + ((e ++ [180])).length)]) (rest := []) rfl rfl rfl ⟨by omega, by omega⟩ (by omega) (lb_areAlike (i := (e).length) (j := ((e ++ [180])).length) (gel (gee _ _)) (gee _ _) (fun k hk => by rw [k144, kr142])) (fun v9 e2 t147 q => ?_) (fun E e2 t q => by cases q.1)
  obtain ⟨qa, qb, qc⟩ := q
  cases qa
  rw [qb, qc]
  clear qb qc
  refine bz_to 0 (pc2 := 188) (lv2 := [some (az_x 0), some (az_r (0)), some (az_r (34 + (e).length)), some (az_i (((zn S 0 : Nat) : Int))), some (az_i (((((((ztl S False + zqw (zq_richest S 0)) + zqw (zq_tired S 0)) + zqw (zq_next S)) + ((zsh S 2).length : Int)) + ((zline S 0).length : Int)) + zqw (zq_hangs S 1 0))))]) (st2 := [az_i (1)]) (s2 := t140) (rfl) ?_
  refine bz_ifc 193 191 rfl (by decide) ⟨by decide, by decide⟩ (fun _ => ?_) (fun h9 => absurd (show az_cnd _ _ _ by unfold az_cnd; decide) h9)
  refine bz_to 2 (pc2 := 196) (lv2 := [some (az_x 0), some (az_r (0)), some (az_r (34 + (e).length)), some (az_i (((zn S 0 : Nat) : Int))), some (az_i (((((((ztl S False + zqw (zq_richest S 0)) + zqw (zq_tired S 0)) + zqw (zq_next S)) + ((zsh S 2).length : Int)) + ((zline S 0).length : Int)) + zqw (zq_hangs S 1 0))))]) (st2 := [az_r (0), az_i (((((((ztl S False + zqw (zq_richest S 0)) + zqw (zq_tired S 0)) + zqw (zq_next S)) + ((zsh S 2).length : Int)) + ((zline S 0).length : Int)) + zqw (zq_hangs S 1 0)))]) (s2 := t140) (rfl) ?_
  refine bz_w 199 (N1 := 1) (M1 := 6) (N2 := N - 1 - 1 - 1 - 1 - 1 - 1 - 0 - 1) (M2 := M - 180 - 6 - 6 - 6 - 6 - 180 - 0 - 6) (m2 := am_m_L_troll) (as := [az_r (0)]) (rest := [az_i (((((((ztl S False + zqw (zq_richest S 0)) + zqw (zq_tired S 0)) + zqw (zq_next S)) + ((zsh S 2).length : Int)) + ((zline S 0).length : Int)) + zqw (zq_hangs S 1 0)))]) rfl rfl rfl ⟨by omega, by omega⟩ (by omega) (lw_troll htx (d := d - 1) (by omega) H143 (by omega) (by omega) (by omega) ) (fun v9 e2 t149 q150 => ?_) (fun E e2 t q => by obtain ⟨_, q, _⟩ := q; cases q)
  obtain ⟨v148, qa, qb, q150⟩ := q150
  cases qa
  rw [qb]
  clear qb
  refine bz_to 0 (pc2 := 199) (lv2 := [some (az_x 0), some (az_r (0)), some (az_r (34 + (e).length)), some (az_i (((zn S 0 : Nat) : Int))), some (az_i (((((((ztl S False + zqw (zq_richest S 0)) + zqw (zq_tired S 0)) + zqw (zq_next S)) + ((zsh S 2).length : Int)) + ((zline S 0).length : Int)) + zqw (zq_hangs S 1 0))))]) (st2 := [az_i (v148), az_i (((((((ztl S False + zqw (zq_richest S 0)) + zqw (zq_tired S 0)) + zqw (zq_next S)) + ((zsh S 2).length : Int)) + ((zline S 0).length : Int)) + zqw (zq_hangs S 1 0)))]) (s2 := t149) (rfl) ?_
  obtain ⟨r151, ⟨fr151, gr151, ir151⟩, nr151, cr151, Gr151, H152⟩ := lch_s q150
  have k153 : t149 (34 + (e).length) = zse S := (fr151 _ (by omega)).trans k144
  have k154 : t149 (34 + ((e ++ [180])).length) = zse S := (fr151 _ (by omega)).trans kr142
  have m155 : zkk (t149 21) S h := by rw [gr151]; exact m145
  have m156 : t149 0 5 = 1 := ir151.trans m146
  refine bz_to 3 (pc2 := 202) (lv2 := [some (az_x 0), some (az_r (0)), some (az_r (34 + (e).length)), some (az_i (((zn S 0 : Nat) : Int))), some (az_i (((((((ztl S False + zqw (zq_richest S 0)) + zqw (zq_tired S 0)) + zqw (zq_next S)) + ((zsh S 2).length : Int)) + ((zline S 0).length : Int)) + zqw (zq_hangs S 1 0))))]) (st2 := [az_i (0), az_i (0), az_r (0), az_i (v148), az_i (((((((ztl S False + zqw (zq_richest S 0)) + zqw (zq_tired S 0)) + zqw (zq_next S)) + ((zsh S 2).length : Int)) + ((zline S 0).length : Int)) + zqw (zq_hangs S 1 0)))]) (s2 := t149) (rfl) ?_
  refine bz_w 205 (N1 := 1) (M1 := 6) (N2 := N - 1 - 1 - 1 - 1 - 1 - 1 - 0 - 1 - 1) (M2 := M - 180 - 6 - 6 - 6 - 6 - 180 - 0 - 6 - 6) (m2 := am_m_L_cross) (as := [az_r (0), az_i (0), az_i (0)]) (rest := [az_i (v148), az_i (((((((ztl S False + zqw (zq_richest S 0)) + zqw (zq_tired S 0)) + zqw (zq_next S)) + ((zsh S 2).length : Int)) + ((zline S 0).length : Int)) + zqw (zq_hangs S 1 0)))]) rfl rfl rfl ⟨by omega, by omega⟩ (by omega) (lw_cross htx (d := d - 1) (by omega) H152 (by omega) (by omega) (by omega) (by constructor <;> omega) (by constructor <;> omega)) (fun v9 e2 t158 q159 => ?_) (fun E e2 t q => by obtain ⟨_, q, _⟩ := q; cases q)
  obtain ⟨v157, qa, qb, q159⟩ := q159
  cases qa
  rw [qb]
  clear qb
  refine bz_to 0 (pc2 := 205) (lv2 := [some (az_x 0), some (az_r (0)), some (az_r (34 + (e).length)), some (az_i (((zn S 0 : Nat) : Int))), some (az_i (((((((ztl S False + zqw (zq_richest S 0)) + zqw (zq_tired S 0)) + zqw (zq_next S)) + ((zsh S 2).length : Int)) + ((zline S 0).length : Int)) + zqw (zq_hangs S 1 0))))]) (st2 := [az_i (v157), az_i (v148), az_i (((((((ztl S False + zqw (zq_richest S 0)) + zqw (zq_tired S 0)) + zqw (zq_next S)) + ((zsh S 2).length : Int)) + ((zline S 0).length : Int)) + zqw (zq_hangs S 1 0)))]) (s2 := t158) (rfl) ?_
  obtain ⟨r160, ⟨fr160, gr160, ir160⟩, nr160, cr160, Gr160, H161⟩ := lch_s q159
  have k162 : t158 (34 + (e).length) = zse S := (fr160 _ (by omega)).trans k153
  have k163 : t158 (34 + ((e ++ [180])).length) = zse S := (fr160 _ (by omega)).trans k154
  have m164 : zkk (t158 21) S h := by rw [gr160]; exact m155
  have m165 : t158 0 5 = 1 := ir160.trans m156
  refine bz_to 3 (pc2 := 208) (lv2 := [some (az_x 0), some (az_r (0)), some (az_r (34 + (e).length)), some (az_i (((zn S 0 : Nat) : Int))), some (az_i (((((((ztl S False + zqw (zq_richest S 0)) + zqw (zq_tired S 0)) + zqw (zq_next S)) + ((zsh S 2).length : Int)) + ((zline S 0).length : Int)) + zqw (zq_hangs S 1 0))))]) (st2 := [az_i (3), az_r (0), az_i ((v148 + v157)), az_i (((((((ztl S False + zqw (zq_richest S 0)) + zqw (zq_tired S 0)) + zqw (zq_next S)) + ((zsh S 2).length : Int)) + ((zline S 0).length : Int)) + zqw (zq_hangs S 1 0)))]) (s2 := t158) (rfl) ?_
  refine bz_w 211 (N1 := 1) (M1 := 6) (N2 := N - 1 - 1 - 1 - 1 - 1 - 1 - 0 - 1 - 1 - 1) (M2 := M - 180 - 6 - 6 - 6 - 6 - 180 - 0 - 6 - 6 - 6) (m2 := am_m_L_pass) (as := [az_r (0), az_i (3)]) (rest := [az_i ((v148 + v157)), az_i (((((((ztl S False + zqw (zq_richest S 0)) + zqw (zq_tired S 0)) + zqw (zq_next S)) + ((zsh S 2).length : Int)) + ((zline S 0).length : Int)) + zqw (zq_hangs S 1 0)))]) rfl rfl rfl ⟨by omega, by omega⟩ (by omega) (lw_pass htx (d := d - 1) (by omega) H161 (by omega) (by omega) (by omega) (by constructor <;> omega)) (fun v9 e2 t167 q168 => ?_) (fun E e2 t q => by obtain ⟨_, q, _⟩ := q; cases q)
  obtain ⟨v166, qa, qb, q168⟩ := q168
  cases qa
  rw [qb]
  clear qb
  refine bz_to 0 (pc2 := 211) (lv2 := [some (az_x 0), some (az_r (0)), some (az_r (34 + (e).length)), some (az_i (((zn S 0 : Nat) : Int))), some (az_i (((((((ztl S False + zqw (zq_richest S 0)) + zqw (zq_tired S 0)) + zqw (zq_next S)) + ((zsh S 2).length : Int)) + ((zline S 0).length : Int)) + zqw (zq_hangs S 1 0))))]) (st2 := [az_i (v166), az_i ((v148 + v157)), az_i (((((((ztl S False + zqw (zq_richest S 0)) + zqw (zq_tired S 0)) + zqw (zq_next S)) + ((zsh S 2).length : Int)) + ((zline S 0).length : Int)) + zqw (zq_hangs S 1 0)))]) (s2 := t167) (rfl) ?_
  obtain ⟨r169, ⟨fr169, gr169, ir169⟩, nr169, cr169, Gr169, H170⟩ := lch_s q168
  have k171 : t167 (34 + (e).length) = zse S := (fr169 _ (by omega)).trans k162
  have k172 : t167 (34 + ((e ++ [180])).length) = zse S := (fr169 _ (by omega)).trans k163
  have m173 : zkk (t167 21) S h := by rw [gr169]; exact m164
  have m174 : t167 0 5 = 1 := ir169.trans m165
  refine bz_to 4 (pc2 := 215) (lv2 := [some (az_x 0), some (az_r (0)), some (az_r (34 + (e).length)), some (az_i (((zn S 0 : Nat) : Int))), some (az_i (((((((ztl S False + zqw (zq_richest S 0)) + zqw (zq_tired S 0)) + zqw (zq_next S)) + ((zsh S 2).length : Int)) + ((zline S 0).length : Int)) + zqw (zq_hangs S 1 0))))]) (st2 := [az_i (1), az_i (1), az_r (0), az_i (((v148 + v157) + v166)), az_i (((((((ztl S False + zqw (zq_richest S 0)) + zqw (zq_tired S 0)) + zqw (zq_next S)) + ((zsh S 2).length : Int)) + ((zline S 0).length : Int)) + zqw (zq_hangs S 1 0)))]) (s2 := t167) (rfl) ?_
  refine bz_w 218 (N1 := 1) (M1 := 6) (N2 := N - 1 - 1 - 1 - 1 - 1 - 1 - 0 - 1 - 1 - 1 - 1) (M2 := M - 180 - 6 - 6 - 6 - 6 - 180 - 0 - 6 - 6 - 6 - 6) (m2 := am_m_L_strike) (as := [az_r (0), az_i (1), az_i (1)]) (rest := [az_i (((v148 + v157) + v166)), az_i (((((((ztl S False + zqw (zq_richest S 0)) + zqw (zq_tired S 0)) + zqw (zq_next S)) + ((zsh S 2).length : Int)) + ((zline S 0).length : Int)) + zqw (zq_hangs S 1 0)))]) rfl rfl rfl ⟨by omega, by omega⟩ (by omega) (lw_strike1 htx (d := d - 1) (by omega) H170 (by omega) (by omega) (by omega) (by constructor <;> omega)) (fun v9 e2 t176 q177 => ?_) (fun E e2 t q => by obtain ⟨_, q, _⟩ := q; cases q)
  obtain ⟨v175, qa, qb, q177⟩ := q177
  cases qa
  rw [qb]
  clear qb
  refine bz_to 0 (pc2 := 218) (lv2 := [some (az_x 0), some (az_r (0)), some (az_r (34 + (e).length)), some (az_i (((zn S 0 : Nat) : Int))), some (az_i (((((((ztl S False + zqw (zq_richest S 0)) + zqw (zq_tired S 0)) + zqw (zq_next S)) + ((zsh S 2).length : Int)) + ((zline S 0).length : Int)) + zqw (zq_hangs S 1 0))))]) (st2 := [az_i (v175), az_i (((v148 + v157) + v166)), az_i (((((((ztl S False + zqw (zq_richest S 0)) + zqw (zq_tired S 0)) + zqw (zq_next S)) + ((zsh S 2).length : Int)) + ((zline S 0).length : Int)) + zqw (zq_hangs S 1 0)))]) (s2 := t176) (rfl) ?_
  obtain ⟨r178, ⟨fr178, gr178, ir178⟩, nr178, cr178, Gr178, H179⟩ := lch_s q177
  have k180 : t176 (34 + (e).length) = zse S := (fr178 _ (by omega)).trans k171
  have k181 : t176 (34 + ((e ++ [180])).length) = zse S := (fr178 _ (by omega)).trans k172
  have m182 : zkk (t176 21) S h := by rw [gr178]; exact m173
  have m183 : t176 0 5 = 1 := ir178.trans m174
  refine bz_to 4 (pc2 := 222) (lv2 := [some (az_x 0), some (az_r (0)), some (az_r (34 + (e).length)), some (az_i (((zn S 0 : Nat) : Int))), some (az_i (((((((ztl S False + zqw (zq_richest S 0)) + zqw (zq_tired S 0)) + zqw (zq_next S)) + ((zsh S 2).length : Int)) + ((zline S 0).length : Int)) + zqw (zq_hangs S 1 0))))]) (st2 := [az_i (5), az_i (2), az_r (0), az_i ((((v148 + v157) + v166) + v175)), az_i (((((((ztl S False + zqw (zq_richest S 0)) + zqw (zq_tired S 0)) + zqw (zq_next S)) + ((zsh S 2).length : Int)) + ((zline S 0).length : Int)) + zqw (zq_hangs S 1 0)))]) (s2 := t176) (rfl) ?_
  refine bz_w 225 (N1 := 1) (M1 := 6) (N2 := N - 1 - 1 - 1 - 1 - 1 - 1 - 0 - 1 - 1 - 1 - 1 - 1) (M2 := M - 180 - 6 - 6 - 6 - 6 - 180 - 0 - 6 - 6 - 6 - 6 - 6) (m2 := am_m_L_fog) (as := [az_r (0), az_i (2), az_i (5)]) (rest := [az_i ((((v148 + v157) + v166) + v175)), az_i (((((((ztl S False + zqw (zq_richest S 0)) + zqw (zq_tired S 0)) + zqw (zq_next S)) + ((zsh S 2).length : Int)) + ((zline S 0).length : Int)) + zqw (zq_hangs S 1 0)))]) rfl rfl rfl ⟨by omega, by omega⟩ (by omega) (lw_fog htx (d := d - 1) (by omega) H179 (by omega) (by omega) (by omega) (by constructor <;> omega) (by constructor <;> omega)) (fun v9 e2 t185 q186 => ?_) (fun E e2 t q => by obtain ⟨_, q, _⟩ := q; cases q)
  obtain ⟨v184, qa, qb, q186⟩ := q186
  cases qa
  rw [qb]
  clear qb
  refine bz_to 0 (pc2 := 225) (lv2 := [some (az_x 0), some (az_r (0)), some (az_r (34 + (e).length)), some (az_i (((zn S 0 : Nat) : Int))), some (az_i (((((((ztl S False + zqw (zq_richest S 0)) + zqw (zq_tired S 0)) + zqw (zq_next S)) + ((zsh S 2).length : Int)) + ((zline S 0).length : Int)) + zqw (zq_hangs S 1 0))))]) (st2 := [az_i (v184), az_i ((((v148 + v157) + v166) + v175)), az_i (((((((ztl S False + zqw (zq_richest S 0)) + zqw (zq_tired S 0)) + zqw (zq_next S)) + ((zsh S 2).length : Int)) + ((zline S 0).length : Int)) + zqw (zq_hangs S 1 0)))]) (s2 := t185) (rfl) ?_
  obtain ⟨r187, ⟨fr187, gr187, ir187⟩, nr187, cr187, Gr187, H188⟩ := lch_s q186
  have k189 : t185 (34 + (e).length) = zse S := (fr187 _ (by omega)).trans k180
  have k190 : t185 (34 + ((e ++ [180])).length) = zse S := (fr187 _ (by omega)).trans k181
  have m191 : zkk (t185 21) S h := by rw [gr187]; exact m182
  have m192 : t185 0 5 = 1 := ir187.trans m183
  refine bz_to 4 (pc2 := 230) (lv2 := [some (az_x 0), some (az_r (0)), some (az_r (34 + (e).length)), some (az_i (((zn S 0 : Nat) : Int))), some (az_i ((((((((ztl S False + zqw (zq_richest S 0)) + zqw (zq_tired S 0)) + zqw (zq_next S)) + ((zsh S 2).length : Int)) + ((zline S 0).length : Int)) + zqw (zq_hangs S 1 0)) + ((((v148 + v157) + v166) + v175) + v184))))]) (st2 := [az_r (0)]) (s2 := t185) (rfl) ?_
  refine bz_w 233 (N1 := 0) (M1 := 0) (N2 := N - 1 - 1 - 1 - 1 - 1 - 1 - 0 - 1 - 1 - 1 - 1 - 1 - 0) (M2 := M - 180 - 6 - 6 - 6 - 6 - 180 - 0 - 6 - 6 - 6 - 6 - 6 - 0) (m2 := am_m_L_restore) (as := [az_r (0)]) (rest := []) rfl rfl rfl ⟨by omega, by omega⟩ (by omega) (lw_restore htx (d := d - 1) (by omega) H188 (by omega) (zkk_up m191 (by omega)) m192 (e := ((e ++ [180]) ++ [180]))) (fun v9 e2 t193 q => ?_) (fun E e2 t q => by cases q.1)
  obtain ⟨qa, qb, ⟨g1, g2, g3⟩, H7⟩ := q
  cases qa
  rw [qb]
  clear qb
  have k194 : t193 (34 + (e).length) = zse S := (g1 _ (by omega)).trans k189
  have k195 : t193 (34 + ((e ++ [180])).length) = zse S := (g1 _ (by omega)).trans k190
  refine bz_to 0 (pc2 := 233) (lv2 := [some (az_x 0), some (az_r (0)), some (az_r (34 + (e).length)), some (az_i (((zn S 0 : Nat) : Int))), some (az_i ((((((((ztl S False + zqw (zq_richest S 0)) + zqw (zq_tired S 0)) + zqw (zq_next S)) + ((zsh S 2).length : Int)) + ((zline S 0).length : Int)) + zqw (zq_hangs S 1 0)) + ((((v148 + v157) + v166) + v175) + v184))))]) (st2 := [az_i (((zn S 0 : Nat) : Int))]) (s2 := t193) (rfl) ?_
  refine bz_to 1 (pc2 := 234) (lv2 := [some (az_x 0), some (az_r (0)), some (az_r (34 + (e).length)), some (az_i (((zn S 0 : Nat) : Int))), some (az_i ((((((((ztl S False + zqw (zq_richest S 0)) + zqw (zq_tired S 0)) + zqw (zq_next S)) + ((zsh S 2).length : Int)) + ((zline S 0).length : Int)) + zqw (zq_hangs S 1 0)) + ((((v148 + v157) + v166) + v175) + v184))))]) (st2 := [az_i (((zn S 0 : Nat) : Int)), az_i (((zn S 0 : Nat) : Int))]) (s2 := t193) (rfl) ?_
  refine bz_if2 268 237 rfl (by decide) (by first | assumption | exact ⟨by omega, by omega⟩) (by first | assumption | exact ⟨by omega, by omega⟩) (fun h9 => absurd h9 (by unfold az_cnd; intro q; exact q rfl)) (fun _ => ?_)
  refine bz_to 2 (pc2 := 239) (lv2 := [some (az_x 0), some (az_r (0)), some (az_r (34 + (e).length)), some (az_i (((zn S 0 : Nat) : Int))), some (az_i ((((((((ztl S False + zqw (zq_richest S 0)) + zqw (zq_tired S 0)) + zqw (zq_next S)) + ((zsh S 2).length : Int)) + ((zline S 0).length : Int)) + zqw (zq_hangs S 1 0)) + ((((v148 + v157) + v166) + v175) + v184))))]) (st2 := [az_r (0), az_r (34 + (e).length)]) (s2 := t193) (rfl) ?_
  refine bz_w 242 (N1 := 1) (M1 := 180) (N2 := N - 1 - 1 - 1 - 1 - 1 - 1 - 0 - 1 - 1 - 1 - 1 - 1 - 0 - 1) (M2 := M - 180 - 6 - 6 - 6 - 6 - 180 - 0 - 6 - 6 - 6 - 6 - 6 - 0 - 180) (m2 := am_m_L_seen) (as := [az_r (0)]) (rest := [az_r (34 + (e).length)]) rfl rfl rfl ⟨by omega, by omega⟩ (by omega) (lb_seen htx (d := d - 1) (by omega) H7 (by omega) (e := ((e ++ [180]) ++ [180])) (Nat.le_refl _) (Nat.le_refl _)) (fun v9 e2 t196 q => ?_) (fun E e2 t q => by cases q.1)
  obtain ⟨qa, qb, kx197, kr198⟩ := q
  cases qa
  rw [qb]
  clear qb
  have H199 := zkS_x H7 kx197
  have k200 : t196 (34 + (e).length) = zse S := (kx197.2 _ (by omega) (by simp only [gln]; omega)).trans k194
  have k201 : t196 (34 + ((e ++ [180])).length) = zse S := (kx197.2 _ (by omega) (by simp only [gln]; omega)).trans k195
  refine bz_to 0 (pc2 := 242) (lv2 := [some (az_x 0), some (az_r (0)), some (az_r (34 + (e).length)), some (az_i (((zn S 0 : Nat) : Int))), some (az_i ((((((((ztl S False + zqw (zq_richest S 0)) + zqw (zq_tired S 0)) + zqw (zq_next S)) + ((zsh S 2).length : Int)) + ((zline S 0).length : Int)) + zqw (zq_hangs S 1 0)) + ((((v148 + v157) + v166) + v175) + v184))))]) (st2 := [az_r (34 + (((e ++ [180]) ++ [180])).length), az_r (34 + (e).length)]) (s2 := t196) (rfl) ?_
  refine bz_w 245 (N1 := 0) (M1 := 0) (N2 := N - 1 - 1 - 1 - 1 - 1 - 1 - 0 - 1 - 1 - 1 - 1 - 1 - 0 - 1 - 0) (M2 := M - 180 - 6 - 6 - 6 - 6 - 180 - 0 - 6 - 6 - 6 - 6 - 6 - 0 - 180 - 0) (m2 := am_m_L_areAlike) (as := [az_r (34 + (e).length), az_r (34 + (((e ++ [180]) ++ [180])).length)]) (rest := []) rfl rfl rfl ⟨by omega, by omega⟩ (by omega) (lb_areAlike (i := (e).length) (j := (((e ++ [180]) ++ [180])).length) (gel (gel (gee _ _))) (gee _ _) (fun k hk => by rw [k200, kr198])) (fun v9 e2 t202 q => ?_) (fun E e2 t q => by cases q.1)
  obtain ⟨qa, qb, qc⟩ := q
  cases qa
  rw [qb, qc]
  clear qb qc
  refine bz_to 0 (pc2 := 245) (lv2 := [some (az_x 0), some (az_r (0)), some (az_r (34 + (e).length)), some (az_i (((zn S 0 : Nat) : Int))), some (az_i ((((((((ztl S False + zqw (zq_richest S 0)) + zqw (zq_tired S 0)) + zqw (zq_next S)) + ((zsh S 2).length : Int)) + ((zline S 0).length : Int)) + zqw (zq_hangs S 1 0)) + ((((v148 + v157) + v166) + v175) + v184))))]) (st2 := [az_i (1)]) (s2 := t196) (rfl) ?_
  refine bz_ifc 268 248 rfl (by decide) ⟨by decide, by decide⟩ (fun h9 => absurd h9 (by unfold az_cnd; decide)) (fun _ => ?_)
  refine bz_to 2 (pc2 := 251) (lv2 := [some (az_x 0), some (az_r (0)), some (az_r (34 + (e).length)), some (az_i (((zn S 0 : Nat) : Int))), some (az_i ((((((((ztl S False + zqw (zq_richest S 0)) + zqw (zq_tired S 0)) + zqw (zq_next S)) + ((zsh S 2).length : Int)) + ((zline S 0).length : Int)) + zqw (zq_hangs S 1 0)) + ((((v148 + v157) + v166) + v175) + v184))))]) (st2 := [az_i (14), az_r (0)]) (s2 := t196) (rfl) ?_
  refine bz_q (v := zlA S 0 14) (m2 := am_m_X9_account) (as := [az_r (0), az_i (14)]) (rest := []) htx 254 rfl rfl rfl (by omega) (lk_account H199 (by omega) (by omega) (by constructor <;> omega)) (fun t203 q204 => ?_)
  have H205 := zkS_k H199 q204.1
  have k206 : t203 (34 + (e).length) = zse S := (q204.2 _ (by omega)).trans k200
  have k207 : t203 (34 + ((e ++ [180])).length) = zse S := (q204.2 _ (by omega)).trans k201
  have k208 : t203 (34 + (((e ++ [180]) ++ [180])).length) = zse S := (q204.2 _ (by omega)).trans kr198
  refine bz_to 0 (pc2 := 254) (lv2 := [some (az_x 0), some (az_r (0)), some (az_r (34 + (e).length)), some (az_i (((zn S 0 : Nat) : Int))), some (az_i ((((((((ztl S False + zqw (zq_richest S 0)) + zqw (zq_tired S 0)) + zqw (zq_next S)) + ((zsh S 2).length : Int)) + ((zline S 0).length : Int)) + zqw (zq_hangs S 1 0)) + ((((v148 + v157) + v166) + v175) + v184))))]) (st2 := [az_i (0)]) (s2 := t203) (rfl) ?_
  refine bz_ifc 268 257 rfl (by decide) ⟨by decide, by decide⟩ (fun h9 => absurd h9 (by unfold az_cnd; decide)) (fun _ => ?_)
  refine bz_to 2 (pc2 := 261) (lv2 := [some (az_x 0), some (az_r (0)), some (az_r (34 + (e).length)), some (az_i (((zn S 0 : Nat) : Int))), some (az_i ((((((((ztl S False + zqw (zq_richest S 0)) + zqw (zq_tired S 0)) + zqw (zq_next S)) + ((zsh S 2).length : Int)) + ((zline S 0).length : Int)) + zqw (zq_hangs S 1 0)) + ((((v148 + v157) + v166) + v175) + v184))))]) (st2 := [az_i (-90000000), az_i ((((((((ztl S False + zqw (zq_richest S 0)) + zqw (zq_tired S 0)) + zqw (zq_next S)) + ((zsh S 2).length : Int)) + ((zline S 0).length : Int)) + zqw (zq_hangs S 1 0)) + ((((v148 + v157) + v166) + v175) + v184)))]) (s2 := t203) (rfl) ?_
  refine bz_if2 268 264 rfl (by decide) (by first | assumption | exact ⟨by omega, by omega⟩) ⟨by decide, by decide⟩ (fun h9 => absurd h9 (by unfold az_cnd; omega)) (fun _ => ?_)
  refine bz_to 2 (pc2 := 269) (lv2 := [some (az_x 0), some (az_r (0)), some (az_r (34 + (e).length)), some (az_i (((zn S 0 : Nat) : Int))), some (az_i ((((((((ztl S False + zqw (zq_richest S 0)) + zqw (zq_tired S 0)) + zqw (zq_next S)) + ((zsh S 2).length : Int)) + ((zline S 0).length : Int)) + zqw (zq_hangs S 1 0)) + ((((v148 + v157) + v166) + v175) + v184))))]) (st2 := [az_i (1)]) (s2 := t203) (rfl) ?_
  exact bz_retB rfl rfl (Or.inr rfl) rfl
set_option maxRecDepth 100000 in
set_option maxHeartbeats 1600000 in
theorem lr_20 {L : Nat} {xs : Nat → Int32} {tx : Nat → Option String} (htx : ∀ i t, am_sx[i]? = some t → tx i = some t) {d : Nat} (hd : 20 ≤ d) (hL : L < 2147483648) : ∀ (mq k : Nat), mq = 8 - k → k ≤ 8 → ∀ {s : az_S} {S : zR} {h c : Nat} {G : Nat → zR} {e : List Nat} {N M : Nat} (x3 x4 : Option az_V), zkS s S h c G → 1 ≤ zn S 0 → h ≤ 100 + 11 * k → 300 * (8 - k) + 50 ≤ N → 6000 * (8 - k) + 1000 ≤ M → bz_R L xs tx d am_m_L_law 20 [some (az_x 0), some (az_r 0), some (az_i ((k : Nat) : Int)), x3, x4] [] e s N M (fun o _ _ => o = .inl (some (az_i 1))) := by
  intro mq
  induction mq using Nat.strongRecOn with
  | _ mq ih =>
    intro k hm hk s S h c G e N M x3 x4 H h1n hh hN hM
    subst hm
    have hI := (zkS_R H).2.1
    refine bz_to 2 (pc2 := 23) (lv2 := [some (az_x 0), some (az_r (0)), some (az_i (((k : Nat) : Int))), x3, x4]) (st2 := [az_i (8), az_i (((k : Nat) : Int))]) (s2 := s) (rfl) ?_
    refine bz_if2 127 26 rfl (by decide) (by first | assumption | exact ⟨by omega, by omega⟩) ⟨by decide, by decide⟩ (fun h1 => ?_) (fun h1 => ?_)
    · have h1 : 8 ≤ ((k : Nat) : Int) := h1
      exact lr_127 htx hd hL H (by omega) h1n (by omega) (by omega)
    · have h1 : ¬ (8 ≤ ((k : Nat) : Int)) := h1
      refine bz_to 1 (pc2 := 27) (lv2 := [some (az_x 0), some (az_r (0)), some (az_i (((k : Nat) : Int))), x3, x4]) (st2 := [az_r (0)]) (s2 := s) (rfl) ?_
      refine bz_w 30 (N1 := 1) (M1 := 180) (N2 := N - 1) (M2 := M - 180) (m2 := am_m_L_seen) (as := [az_r (0)]) (rest := []) rfl rfl rfl ⟨by omega, by omega⟩ (by omega) (lb_seen htx (d := d - 1) (by omega) H (by omega) (e := e) (Nat.le_refl _) (Nat.le_refl _)) (fun v9 e2 t56 q => ?_) (fun E e2 t q => by cases q.1)
      obtain ⟨qa, qb, kx57, kr58⟩ := q
      cases qa
      rw [qb]
      clear qb
      have H59 := zkS_x H kx57
      refine bz_to 0 (pc2 := 30) (lv2 := [some (az_x 0), some (az_r (0)), some (az_i (((k : Nat) : Int))), x3, x4]) (st2 := [az_r (34 + (e).length)]) (s2 := t56) (rfl) ?_
      refine bz_to 8 (pc2 := 39) (lv2 := [some (az_x 0), some (az_r (0)), some (az_i (((k : Nat) : Int))), some (az_r (34 + (e).length)), x4]) (st2 := [az_i ((52 + (4 * ((k : Nat) : Int)))), az_x 0, az_r (0)]) (s2 := t56) (rfl) ?_
      refine bz_w 42 (N1 := 25) (M1 := 4006) (N2 := N - 1 - 25) (M2 := M - 180 - 4006) (m2 := am_m_L_acts) (as := [az_r (0), az_x 0, az_i ((52 + (4 * ((k : Nat) : Int))))]) (rest := []) rfl rfl rfl ⟨by omega, by omega⟩ (by omega) (lb_acts htx (d := d - 1) (by omega) hL H59 (by omega) (e := (e ++ [180])) (Nat.le_refl 25) (Nat.le_refl 4006) ⟨by omega, by omega⟩) (fun v9 e2 t60 q => ?_) (fun E e2 t q => by obtain ⟨_, _, q, _⟩ := q; cases q)
      obtain ⟨v, S2, qa, qb, ⟨f1, f2, f3⟩, f4, P⟩ := q
      cases qa
      rw [qb]
      clear qb
      have k61 : t60 (34 + (e).length) = zse S := (f1 _ (by omega)).trans kr58
      refine bz_to 0 (pc2 := 42) (lv2 := [some (az_x 0), some (az_r (0)), some (az_i (((k : Nat) : Int))), some (az_r (34 + (e).length)), x4]) (st2 := [az_i (v)]) (s2 := t60) (rfl) ?_
      rcases P with ⟨v1, v2, c2, G2, H2, eG⟩ | ⟨v1, v2, eS, c2, G2, H2⟩
      · have c28 : c2 + 1 ≤ 8 := by
          obtain ⟨p, _, q, _⟩ := H2.2.1
          exact q
        refine bz_to 2 (pc2 := 45) (lv2 := [some (az_x 0), some (az_r (0)), some (az_i (((k : Nat) : Int))), some (az_r (34 + (e).length)), some (az_i (v))]) (st2 := [az_r (0)]) (s2 := t60) (rfl) ?_
        refine bz_w 48 (N1 := 182) (M1 := 1152) (N2 := N - 1 - 25 - 182) (M2 := M - 180 - 4006 - 1152) (m2 := am_m_L_isWell) (as := [az_r (0)]) (rest := []) rfl rfl rfl ⟨by omega, by omega⟩ (by omega) (lb_isWell htx (d := d - 1) (by omega) H2 (by omega) (e := (e ++ [180]))) (fun v9 e2 t62 q => ?_) (fun E e2 t q => by cases q.1)
        obtain ⟨qa, qb, kx63⟩ := q
        cases qa
        rw [qb]
        clear qb
        have H64 := zkS_x H2 kx63
        have k65 : t62 (34 + (e).length) = zse S := (kx63.2 _ (by omega) (by simp only [gln]; omega)).trans k61
        refine bz_to 0 (pc2 := 48) (lv2 := [some (az_x 0), some (az_r (0)), some (az_i (((k : Nat) : Int))), some (az_r (34 + (e).length)), some (az_i (v))]) (st2 := [az_i (1)]) (s2 := t62) (rfl) ?_
        refine bz_ifc 79 51 rfl (by decide) ⟨by decide, by decide⟩ (fun h9 => absurd h9 (by unfold az_cnd; decide)) (fun _ => ?_)
        refine bz_to 2 (pc2 := 54) (lv2 := [some (az_x 0), some (az_r (0)), some (az_i (((k : Nat) : Int))), some (az_r (34 + (e).length)), some (az_i (v))]) (st2 := [az_i (13), az_r (0)]) (s2 := t62) (rfl) ?_
        refine bz_q (v := zlA S2 (c2 + 1) 13) (m2 := am_m_X9_account) (as := [az_r (0), az_i (13)]) (rest := []) htx 57 rfl rfl rfl (by omega) (lk_account H64 (by omega) (by omega) (by constructor <;> omega)) (fun t66 q67 => ?_)
        have H68 := zkS_k H64 q67.1
        have k69 : t66 (34 + (e).length) = zse S := (q67.2 _ (by omega)).trans k65
        refine bz_to 0 (pc2 := 57) (lv2 := [some (az_x 0), some (az_r (0)), some (az_i (((k : Nat) : Int))), some (az_r (34 + (e).length)), some (az_i (v))]) (st2 := [az_i (0)]) (s2 := t66) (rfl) ?_
        refine bz_ifc 79 60 rfl (by decide) ⟨by decide, by decide⟩ (fun h9 => absurd h9 (by unfold az_cnd; decide)) (fun _ => ?_)
        refine bz_to 2 (pc2 := 65) (lv2 := [some (az_x 0), some (az_r (0)), some (az_i (((k : Nat) : Int))), some (az_r (34 + (e).length)), some (az_i (v))]) (st2 := [az_i (-900000), az_i (v)]) (s2 := t66) (rfl) ?_
        refine bz_if2 81 68 rfl (by decide) (by first | assumption | exact ⟨by omega, by omega⟩) ⟨by decide, by decide⟩ (fun _ => ?_) (fun h9 => absurd (show az_cnd _ _ _ by unfold az_cnd; omega) h9)
        refine bz_to 2 (pc2 := 86) (lv2 := [some (az_x 0), some (az_r (0)), some (az_i (((k : Nat) : Int))), some (az_r (34 + (e).length)), some (az_i (v))]) (st2 := [az_i (-900000), az_i (v)]) (s2 := t66) (rfl) ?_
        refine bz_if2 121 89 rfl (by decide) (by first | assumption | exact ⟨by omega, by omega⟩) ⟨by decide, by decide⟩ (fun h9 => absurd h9 (by unfold az_cnd; omega)) (fun _ => ?_)
        refine bz_to 5 (pc2 := 95) (lv2 := [some (az_x 0), some (az_r (0)), some (az_i (((k : Nat) : Int))), some (az_r (34 + (e).length)), some (az_i (v))]) (st2 := [az_i (5), az_i ((85 + ((k : Nat) : Int))), az_x 0]) (s2 := t66) (rfl) ?_
        refine bz_w 98 (N1 := 0) (M1 := 0) (m2 := am_m_L_in) (as := [az_x 0, az_i ((85 + ((k : Nat) : Int))), az_i (5)]) (rest := []) rfl rfl rfl ⟨Nat.zero_add _, Nat.zero_add _⟩ (by omega) (lb_in hL (by omega) ⟨by omega, by omega⟩ (n := 5) (by decide)) (fun v e2 t q => ?_) (fun E e2 t q => by obtain ⟨w, _, _, q, _⟩ := q; cases q)
        obtain ⟨w70, aw70, bw70, q1, q2, q3⟩ := q
        cases q1
        rw [q2, q3]
        clear q2 q3
        refine bz_to 0 (pc2 := 98) (lv2 := [some (az_x 0), some (az_r (0)), some (az_i (((k : Nat) : Int))), some (az_r (34 + (e).length)), some (az_i (v))]) (st2 := [az_i (w70)]) (s2 := t66) (rfl) ?_
        refine bz_ifc 121 101 rfl (by decide) (by first | assumption | exact ⟨by omega, by omega⟩) (fun h5 => ?_) (fun h5 => ?_)
        · have h5 : ¬ w70 = 0 := h5
          refine bz_to 2 (pc2 := 20) (lv2 := [some (az_x 0), some (az_r (0)), some (az_i ((((k : Nat) : Int) + 1))), some (az_r (34 + (e).length)), some (az_i (v))]) (st2 := []) (s2 := t66) (rfl) ?_
          exact ih (8 - (k + 1)) (by omega) (k + 1) rfl (by omega) _ _ H68 (by omega) (by omega) (by omega) (by omega)
        · have h5 : w70 = 0 := Decidable.not_not.mp h5
          refine bz_to 1 (pc2 := 102) (lv2 := [some (az_x 0), some (az_r (0)), some (az_i (((k : Nat) : Int))), some (az_r (34 + (e).length)), some (az_i (v))]) (st2 := [az_r (0)]) (s2 := t66) (rfl) ?_
          refine bz_w 105 (N1 := 0) (M1 := 0) (N2 := N - 1 - 25 - 182 - 0) (M2 := M - 180 - 4006 - 1152 - 0) (m2 := am_m_L_undo) (as := [az_r (0)]) (rest := []) rfl rfl rfl ⟨by omega, by omega⟩ (by omega) (lw_undo htx (d := d - 1) (by omega) H68 (e := (((e ++ [180]) ++ [36]) ++ [36]))) (fun v9 e2 t71 q => ?_) (fun E e2 t q => by cases q.1)
          obtain ⟨qa, qb, ⟨g1, g2, g3⟩, H7⟩ := q
          cases qa
          rw [qb]
          clear qb
          rw [eG] at H7
          have k72 : t71 (34 + (e).length) = zse S := (g1 _ (by omega)).trans k69
          refine bz_to 0 (pc2 := 105) (lv2 := [some (az_x 0), some (az_r (0)), some (az_i (((k : Nat) : Int))), some (az_r (34 + (e).length)), some (az_i (v))]) (st2 := [az_i (((c2 : Nat) : Int))]) (s2 := t71) (rfl) ?_
          refine bz_ifc 119 108 rfl (by decide) (by first | assumption | exact ⟨by omega, by omega⟩) (fun h9 => absurd h9 (by unfold az_cnd; omega)) (fun _ => ?_)
          refine bz_to 2 (pc2 := 110) (lv2 := [some (az_x 0), some (az_r (0)), some (az_i (((k : Nat) : Int))), some (az_r (34 + (e).length)), some (az_i (v))]) (st2 := [az_r (0), az_r (34 + (e).length)]) (s2 := t71) (rfl) ?_
          refine bz_w 113 (N1 := 1) (M1 := 180) (N2 := N - 1 - 25 - 182 - 0 - 1) (M2 := M - 180 - 4006 - 1152 - 0 - 180) (m2 := am_m_L_seen) (as := [az_r (0)]) (rest := [az_r (34 + (e).length)]) rfl rfl rfl ⟨by omega, by omega⟩ (by omega) (lb_seen htx (d := d - 1) (by omega) H7 (by omega) (e := (((e ++ [180]) ++ [36]) ++ [36])) (Nat.le_refl _) (Nat.le_refl _)) (fun v9 e2 t73 q => ?_) (fun E e2 t q => by cases q.1)
          obtain ⟨qa, qb, kx74, kr75⟩ := q
          cases qa
          rw [qb]
          clear qb
          have H76 := zkS_x H7 kx74
          have k77 : t73 (34 + (e).length) = zse S := (kx74.2 _ (by omega) (by simp only [gln]; omega)).trans k72
          refine bz_to 0 (pc2 := 113) (lv2 := [some (az_x 0), some (az_r (0)), some (az_i (((k : Nat) : Int))), some (az_r (34 + (e).length)), some (az_i (v))]) (st2 := [az_r (34 + ((((e ++ [180]) ++ [36]) ++ [36])).length), az_r (34 + (e).length)]) (s2 := t73) (rfl) ?_
          refine bz_w 116 (N1 := 0) (M1 := 0) (N2 := N - 1 - 25 - 182 - 0 - 1 - 0) (M2 := M - 180 - 4006 - 1152 - 0 - 180 - 0) (m2 := am_m_L_areAlike) (as := [az_r (34 + (e).length), az_r (34 + ((((e ++ [180]) ++ [36]) ++ [36])).length)]) (rest := []) rfl rfl rfl ⟨by omega, by omega⟩ (by omega) (lb_areAlike (i := (e).length) (j := ((((e ++ [180]) ++ [36]) ++ [36])).length) (gel (gel (gel (gee _ _)))) (gee _ _) (fun k hk => by rw [k77, kr75])) (fun v9 e2 t78 q => ?_) (fun E e2 t q => by cases q.1)
          obtain ⟨qa, qb, qc⟩ := q
          cases qa
          rw [qb, qc]
          clear qb qc
          refine bz_to 0 (pc2 := 116) (lv2 := [some (az_x 0), some (az_r (0)), some (az_i (((k : Nat) : Int))), some (az_r (34 + (e).length)), some (az_i (v))]) (st2 := [az_i (1)]) (s2 := t73) (rfl) ?_
          refine bz_ifc 121 119 rfl (by decide) ⟨by decide, by decide⟩ (fun _ => ?_) (fun h9 => absurd (show az_cnd _ _ _ by unfold az_cnd; decide) h9)
          refine bz_to 2 (pc2 := 20) (lv2 := [some (az_x 0), some (az_r (0)), some (az_i ((((k : Nat) : Int) + 1))), some (az_r (34 + (e).length)), some (az_i (v))]) (st2 := []) (s2 := t73) (rfl) ?_
          exact ih (8 - (k + 1)) (by omega) (k + 1) rfl (by omega) _ _ H76 (by omega) (by omega) (by omega) (by omega)
      · subst eS
        refine bz_to 2 (pc2 := 45) (lv2 := [some (az_x 0), some (az_r (0)), some (az_i (((k : Nat) : Int))), some (az_r (34 + (e).length)), some (az_i (v))]) (st2 := [az_r (0)]) (s2 := t60) (rfl) ?_
        refine bz_w 48 (N1 := 182) (M1 := 1152) (N2 := N - 1 - 25 - 182) (M2 := M - 180 - 4006 - 1152) (m2 := am_m_L_isWell) (as := [az_r (0)]) (rest := []) rfl rfl rfl ⟨by omega, by omega⟩ (by omega) (lb_isWell htx (d := d - 1) (by omega) H2 (by omega) (e := (e ++ [180]))) (fun v9 e2 t79 q => ?_) (fun E e2 t q => by cases q.1)
        obtain ⟨qa, qb, kx80⟩ := q
        cases qa
        rw [qb]
        clear qb
        have H81 := zkS_x H2 kx80
        have k82 : t79 (34 + (e).length) = zse S2 := (kx80.2 _ (by omega) (by simp only [gln]; omega)).trans k61
        refine bz_to 0 (pc2 := 48) (lv2 := [some (az_x 0), some (az_r (0)), some (az_i (((k : Nat) : Int))), some (az_r (34 + (e).length)), some (az_i (v))]) (st2 := [az_i (1)]) (s2 := t79) (rfl) ?_
        refine bz_ifc 79 51 rfl (by decide) ⟨by decide, by decide⟩ (fun h9 => absurd h9 (by unfold az_cnd; decide)) (fun _ => ?_)
        refine bz_to 2 (pc2 := 54) (lv2 := [some (az_x 0), some (az_r (0)), some (az_i (((k : Nat) : Int))), some (az_r (34 + (e).length)), some (az_i (v))]) (st2 := [az_i (13), az_r (0)]) (s2 := t79) (rfl) ?_
        refine bz_q (v := zlA S2 c2 13) (m2 := am_m_X9_account) (as := [az_r (0), az_i (13)]) (rest := []) htx 57 rfl rfl rfl (by omega) (lk_account H81 (by omega) (by omega) (by constructor <;> omega)) (fun t83 q84 => ?_)
        have H85 := zkS_k H81 q84.1
        have k86 : t83 (34 + (e).length) = zse S2 := (q84.2 _ (by omega)).trans k82
        refine bz_to 0 (pc2 := 57) (lv2 := [some (az_x 0), some (az_r (0)), some (az_i (((k : Nat) : Int))), some (az_r (34 + (e).length)), some (az_i (v))]) (st2 := [az_i (0)]) (s2 := t83) (rfl) ?_
        refine bz_ifc 79 60 rfl (by decide) ⟨by decide, by decide⟩ (fun h9 => absurd h9 (by unfold az_cnd; decide)) (fun _ => ?_)
        refine bz_to 2 (pc2 := 65) (lv2 := [some (az_x 0), some (az_r (0)), some (az_i (((k : Nat) : Int))), some (az_r (34 + (e).length)), some (az_i (v))]) (st2 := [az_i (-900000), az_i (v)]) (s2 := t83) (rfl) ?_
        refine bz_if2 81 68 rfl (by decide) (by first | assumption | exact ⟨by omega, by omega⟩) ⟨by decide, by decide⟩ (fun h9 => absurd h9 (by unfold az_cnd; omega)) (fun _ => ?_)
        refine bz_to 2 (pc2 := 70) (lv2 := [some (az_x 0), some (az_r (0)), some (az_i (((k : Nat) : Int))), some (az_r (34 + (e).length)), some (az_i (v))]) (st2 := [az_r (0), az_r (34 + (e).length)]) (s2 := t83) (rfl) ?_
        refine bz_w 73 (N1 := 1) (M1 := 180) (N2 := N - 1 - 25 - 182 - 1) (M2 := M - 180 - 4006 - 1152 - 180) (m2 := am_m_L_seen) (as := [az_r (0)]) (rest := [az_r (34 + (e).length)]) rfl rfl rfl ⟨by omega, by omega⟩ (by omega) (lb_seen htx (d := d - 1) (by omega) H85 (by omega) (e := (((e ++ [180]) ++ [36]) ++ [36])) (Nat.le_refl _) (Nat.le_refl _)) (fun v9 e2 t87 q => ?_) (fun E e2 t q => by cases q.1)
        obtain ⟨qa, qb, kx88, kr89⟩ := q
        cases qa
        rw [qb]
        clear qb
        have H90 := zkS_x H85 kx88
        have k91 : t87 (34 + (e).length) = zse S2 := (kx88.2 _ (by omega) (by simp only [gln]; omega)).trans k86
        refine bz_to 0 (pc2 := 73) (lv2 := [some (az_x 0), some (az_r (0)), some (az_i (((k : Nat) : Int))), some (az_r (34 + (e).length)), some (az_i (v))]) (st2 := [az_r (34 + ((((e ++ [180]) ++ [36]) ++ [36])).length), az_r (34 + (e).length)]) (s2 := t87) (rfl) ?_
        refine bz_w 76 (N1 := 0) (M1 := 0) (N2 := N - 1 - 25 - 182 - 1 - 0) (M2 := M - 180 - 4006 - 1152 - 180 - 0) (m2 := am_m_L_areAlike) (as := [az_r (34 + (e).length), az_r (34 + ((((e ++ [180]) ++ [36]) ++ [36])).length)]) (rest := []) rfl rfl rfl ⟨by omega, by omega⟩ (by omega) (lb_areAlike (i := (e).length) (j := ((((e ++ [180]) ++ [36]) ++ [36])).length) (gel (gel (gel (gee _ _)))) (gee _ _) (fun k hk => by rw [k91, kr89])) (fun v9 e2 t92 q => ?_) (fun E e2 t q => by cases q.1)
        obtain ⟨qa, qb, qc⟩ := q
        cases qa
        rw [qb, qc]
        clear qb qc
        refine bz_to 0 (pc2 := 76) (lv2 := [some (az_x 0), some (az_r (0)), some (az_i (((k : Nat) : Int))), some (az_r (34 + (e).length)), some (az_i (v))]) (st2 := [az_i (1)]) (s2 := t87) (rfl) ?_
        refine bz_ifc 81 79 rfl (by decide) ⟨by decide, by decide⟩ (fun _ => ?_) (fun h9 => absurd (show az_cnd _ _ _ by unfold az_cnd; decide) h9)
        refine bz_to 2 (pc2 := 86) (lv2 := [some (az_x 0), some (az_r (0)), some (az_i (((k : Nat) : Int))), some (az_r (34 + (e).length)), some (az_i (v))]) (st2 := [az_i (-900000), az_i (v)]) (s2 := t87) (rfl) ?_
        refine bz_if2 121 89 rfl (by decide) (by first | assumption | exact ⟨by omega, by omega⟩) ⟨by decide, by decide⟩ (fun _ => ?_) (fun h9 => absurd (show az_cnd _ _ _ by unfold az_cnd; omega) h9)
        refine bz_to 2 (pc2 := 20) (lv2 := [some (az_x 0), some (az_r (0)), some (az_i ((((k : Nat) : Int) + 1))), some (az_r (34 + (e).length)), some (az_i (v))]) (st2 := []) (s2 := t87) (rfl) ?_
        exact ih (8 - (k + 1)) (by omega) (k + 1) rfl (by omega) _ _ H90 (by omega) (by omega) (by omega) (by omega)
set_option maxRecDepth 100000 in
set_option maxHeartbeats 1600000 in
theorem lr_4 {L : Nat} {xs : Nat → Int32} {tx : Nat → Option String} (htx : ∀ i t, am_sx[i]? = some t → tx i = some t) {d : Nat} (hd : 20 ≤ d) (hL : L < 2147483648) {s : az_S} {S : zR} {h c : Nat} {G : Nat → zR} {e : List Nat} {N M : Nat} (H : zkS s S h c G) (hh : h ≤ 100) (h1n : 1 ≤ zn S 0) (hN : 3000 ≤ N) (hM : 60000 ≤ M) : bz_R L xs tx d am_m_L_law 4 [some (az_x 0), none, none, none, none] [az_r 0] e s N M (fun o _ _ => o = .inl (some (az_i 1))) := by
  refine bz_to 2 (pc2 := 6) (lv2 := [some (az_x 0), some (az_r (0)), none, none, none]) (st2 := [az_r (0)]) (s2 := s) (rfl) ?_
  refine bz_ifn 9 rfl rfl ?_
  refine bz_to 0 (pc2 := 9) (lv2 := [some (az_x 0), some (az_r (0)), none, none, none]) (st2 := []) (s2 := s) (rfl) ?_
  refine bz_to 1 (pc2 := 10) (lv2 := [some (az_x 0), some (az_r (0)), none, none, none]) (st2 := [az_r (0)]) (s2 := s) (rfl) ?_
  refine bz_w 13 (N1 := 182) (M1 := 1152) (N2 := N - 182) (M2 := M - 1152) (m2 := am_m_L_isWell) (as := [az_r (0)]) (rest := []) rfl rfl rfl ⟨by omega, by omega⟩ (by omega) (lb_isWell htx (d := d - 1) (by omega) H (by omega) (e := e)) (fun v9 e2 t209 q => ?_) (fun E e2 t q => by cases q.1)
  obtain ⟨qa, qb, kx210⟩ := q
  cases qa
  rw [qb]
  clear qb
  have H211 := zkS_x H kx210
  refine bz_to 0 (pc2 := 13) (lv2 := [some (az_x 0), some (az_r (0)), none, none, none]) (st2 := [az_i (1)]) (s2 := t209) (rfl) ?_
  refine bz_ifc 18 16 rfl (by decide) ⟨by decide, by decide⟩ (fun _ => ?_) (fun h9 => absurd (show az_cnd _ _ _ by unfold az_cnd; decide) h9)
  refine bz_to 2 (pc2 := 20) (lv2 := [some (az_x 0), some (az_r (0)), some (az_i (0)), none, none]) (st2 := []) (s2 := t209) (rfl) ?_
  exact lr_20 htx hd hL 8 0 rfl (by omega) _ _ H211 h1n (by omega) (by omega) (by omega)
