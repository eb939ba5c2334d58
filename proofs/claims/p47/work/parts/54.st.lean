/-! THE STATE BETWEEN CALLS: class against reference -/
/-- hours of riddles, and the hour -/
def zKf (S S2 : zR) : Prop := S2 3 = S 3 ∧ ∀ t, t < 6 → zT S2 t 3 = zT S t 3
theorem zJ_f {S S2 : zR} (hJ : zJ S) (h : zKf S S2) : zJ S2 := fun t ht => by
  rw [h.1, h.2 t ht]
  exact hJ t ht
theorem zKf_r (S : zR) : zKf S S := ⟨rfl, fun _ _ => rfl⟩
theorem zKf_t {A B C : zR} (h1 : zKf A B) (h2 : zKf B C) : zKf A C := ⟨h2.1.trans h1.1, fun t ht => (h2.2 t ht).trans (h1.2 t ht)⟩
theorem zKf_u {S : zR} {i : Nat} {v : Int} (h : i ≠ 3 ∧ (i < 126 ∨ 150 ≤ i ∨ i % 4 ≠ 1)) : zKf S (zup S i v) := by
  refine ⟨zup_ne _ _ (by omega), fun t ht => ?_⟩
  unfold zT
  exact zup_ne _ _ (by omega)
theorem zKf_pS {S : zR} {h : Nat} (hI : zInv S h) {g b : Nat} (hg : g < 5) (hb : b < 10) : zKf S (zpS S g b) := by
  have h1 := zat_r hI b
  unfold zpS
  split
  · exact zKf_t (zKf_u (by omega)) (zKf_u (by omega))
  · split
    · exact zKf_t (zKf_u (by omega)) (zKf_u (by omega))
    · exact zKf_u (by omega)
theorem zKf_cS {S : zR} {h : Nat} (hI : zInv S h) {g b : Nat} (hg : g < 5) (hb : b < 10) : zKf S (zcS S g b) := by
  unfold zcS
  exact zKf_t (zKf_t (zKf_t (zKf_t (zKf_t (zKf_pS hI hg hb) (zKf_u (by omega))) (zKf_u (by omega))) (zKf_u (by omega))) (zKf_u (by omega))) (zKf_u (by omega))
theorem zKf_sl {T : zR} {b : Nat} {f : Int} (hb : b < 10) : ∀ k, k ≤ 5 → zKf T (zsl T b f k)
  | 0, _ => zKf_r T
  | k + 1, hk => by
    unfold zsl
    exact zKf_t (zKf_t (zKf_sl hb k (by omega)) (zKf_u (by omega))) (zKf_u (by omega))
theorem zKf_sS {S : zR} {h : Nat} (hI : zInv S h) {b : Nat} {f : Int} (hb : b < 10) : zKf S (zsS S b f) := by
  have h1 := zat_r hI b
  unfold zsS
  refine zKf_t (zKf_t (B := zsT S b f) ?_ (zKf_sl hb 5 (by omega))) (zKf_u (by omega))
  unfold zsT
  split
  · exact zKf_u (by omega)
  · exact zKf_r S
theorem zKf_bS {S : zR} {h : Nat} (hn : zn S 0 < 10) (o p q r : Int) : zKf S (zbS S o p q r) := by
  refine ⟨zbS_o (by omega) (by omega), fun t ht => ?_⟩
  unfold zT
  exact zbS_o (by omega) (by omega)
theorem zJ_bridge {S : zR} {h : Nat} (hI : zInv S h) (hJ : zJ S) (o p q r : Int) : zJ (zo_bridge S o p q r).2.2.2 := by
  have hn := zn_le hI
  have hz := zn_eq hI
  unfold zo_bridge
  split
  · exact hJ
  split
  · exact hJ
  split
  · exact hJ
  split
  · exact hJ
  · exact zJ_f hJ (zKf_bS (h := h) (by omega) _ _ _ _)
theorem zJ_troll {S : zR} {h : Nat} (hI : zInv S h) (hJ : zJ S) : zJ (zo_troll S ).2.2.2 := by
  have hn := zn_le hI
  have hz := zn_eq hI
  unfold zo_troll
  split
  · exact hJ
  · exact zJ_f hJ (zKf_t (zKf_u (by omega)) (zKf_u (by omega)))
theorem zJ_goat {S : zR} {h : Nat} (hI : zInv S h) (hJ : zJ S) (l c : Int) : zJ (zo_goat S l c).2.2.2 := by
  have hn := zn_le hI
  have hz := zn_eq hI
  unfold zo_goat
  split
  · exact hJ
  split
  · exact hJ
  split
  · exact hJ
  · exact zJ_f hJ (zKf_t (zKf_t (zKf_t (zKf_u (by omega)) (zKf_u (by omega))) (zKf_u (by omega))) (zKf_u (by omega)))
theorem zJ_post {S : zR} {h : Nat} (hI : zInv S h) (hJ : zJ S) (t b : Int) : zJ (zo_post S t b).2.2.2 := by
  have hn := zn_le hI
  have hz := zn_eq hI
  unfold zo_post
  split
  · exact hJ
  split
  · exact hJ
  split
  · exact hJ
  split
  · exact hJ
  · exact zJ_f hJ (zKf_u (by omega))
theorem zJ_leave {S : zR} {h : Nat} (hI : zInv S h) (hJ : zJ S) (t : Int) : zJ (zo_leave S t).2.2.2 := by
  have hn := zn_le hI
  have hz := zn_eq hI
  unfold zo_leave
  split
  · exact hJ
  split
  · exact hJ
  split
  · exact hJ
  · exact zJ_f hJ (zKf_u (by omega))
theorem zJ_fog {S : zR} {h : Nat} (hI : zInv S h) (hJ : zJ S) (b n : Int) : zJ (zo_fog S b n).2.2.2 := by
  have hn := zn_le hI
  have hz := zn_eq hI
  unfold zo_fog
  split
  · exact hJ
  split
  · exact hJ
  split
  · exact hJ
  · exact zJ_f hJ (zKf_u (by omega))
theorem zJ_price {S : zR} {h : Nat} (hI : zInv S h) (hJ : zJ S) (b r : Int) : zJ (zo_price S b r).2.2.2 := by
  have hn := zn_le hI
  have hz := zn_eq hI
  unfold zo_price
  split
  · exact hJ
  split
  · exact hJ
  split
  · exact hJ
  split
  · exact hJ
  · exact zJ_f hJ (zKf_u (by omega))
theorem zJ_cross {S : zR} {h : Nat} (hI : zInv S h) (hJ : zJ S) (g b : Int) : zJ (zo_cross S g b).2.2.2 := by
  have hn := zn_le hI
  have hz := zn_eq hI
  unfold zo_cross
  split
  · exact hJ
  split
  · exact hJ
  split
  · exact hJ
  split
  · exact hJ
  · exact zJ_f hJ (zKf_cS hI (by omega) (by omega))
theorem zJ_dispute {S : zR} {h : Nat} (hI : zInv S h) (hJ : zJ S) (g b : Int) : zJ (zo_dispute S g b).2.2.2 := by
  have hn := zn_le hI
  have hz := zn_eq hI
  unfold zo_dispute
  split
  · exact hJ
  split
  · exact hJ
  split
  · exact hJ
  · exact zJ_f hJ (zKf_u (by omega))
theorem zJ_settle {S : zR} {h : Nat} (hI : zInv S h) (hJ : zJ S) (b f : Int) : zJ (zo_settle S b f).2.2.2 := by
  have hn := zn_le hI
  have hz := zn_eq hI
  unfold zo_settle
  split
  · exact hJ
  split
  · exact hJ
  · exact zJ_f hJ (zKf_sS hI (by omega))
theorem zJ_strike {S : zR} {h : Nat} (hI : zInv S h) (hJ : zJ S) (g v : Int) : zJ (zo_strike S g v).2.2.2 := by
  have hn := zn_le hI
  have hz := zn_eq hI
  unfold zo_strike
  split
  · exact hJ
  split
  · exact hJ
  · exact zJ_f hJ (zKf_u (by omega))
theorem zJ_pass {S : zR} {h : Nat} (hI : zInv S h) (hJ : zJ S) (n : Int) : zJ (zo_pass S n).2.2.2 := by
  have hn := zn_le hI
  have hz := zn_eq hI
  unfold zo_pass
  split
  · exact hJ
  · intro t ht
    have := hJ t ht
    show zT (zup S 3 (S 3 + n)) t 3 ≤ zup S 3 (S 3 + n) 3 + 48
    rw [show zT (zup S 3 (S 3 + n)) t 3 = zT S t 3 from zup_ne _ _ (by omega), zup_eq]
    omega
theorem zJ_riddle {S : zR} {h : Nat} (hI : zInv S h) (hJ : zJ S) (t d n : Int) : zJ (zo_riddle S t d n).2.2.2 := by
  have hn := zn_le hI
  have hz := zn_eq hI
  unfold zo_riddle
  split
  · exact hJ
  split
  · exact hJ
  split
  · exact hJ
  · intro u hu
    have := hJ u hu
    show zT (zup (zup S (126 + 4 * t.toNat + 2) d) (126 + 4 * t.toNat + 3) (S 3 + n)) u 3 ≤ zup (zup S (126 + 4 * t.toNat + 2) d) (126 + 4 * t.toNat + 3) (S 3 + n) 3 + 48
    rw [zup_ne (j := 3) _ _ (by omega), zup_ne (j := 3) _ _ (by omega)]
    unfold zT at this ⊢
    by_cases q : t.toNat = u
    · rw [q, zup_eq]
      omega
    · rw [zup_ne _ _ (by omega), zup_ne _ _ (by omega)]
      exact this
/-- the hours stay within bounds -/
theorem zJ_cm {S : zR} {h : Nat} (hI : zInv S h) (hJ : zJ S) {k : Nat} (hk : k < 13) (L : List Int) : zJ (zcm S k L).2.2.2 := by
  have hn := zn_le hI
  have hz := zn_eq hI
  have hc : k = 0 ∨ k = 1 ∨ k = 2 ∨ k = 3 ∨ k = 4 ∨ k = 5 ∨ k = 6 ∨ k = 7 ∨ k = 8 ∨ k = 9 ∨ k = 10 ∨ k = 11 ∨ k = 12 := by omega
  rcases hc with rfl | rfl | rfl | rfl | rfl | rfl | rfl | rfl | rfl | rfl | rfl | rfl | rfl
  · exact zJ_bridge hI hJ _ _ _ _
  · exact zJ_troll hI hJ
  · exact zJ_goat hI hJ _ _
  · exact zJ_post hI hJ _ _
  · exact zJ_cross hI hJ _ _
  · exact zJ_dispute hI hJ _ _
  · exact zJ_leave hI hJ _
  · exact zJ_strike hI hJ _ _
  · exact zJ_strike hI hJ _ _
  · exact zJ_riddle hI hJ _ _ _
  · exact zJ_fog hI hJ _ _
  · exact zJ_settle hI hJ _ _
  · exact zJ_pass hI hJ _
/-- rows alike at the places that count -/
theorem zInv_c {S S2 : zR} {h : Nat} (hI : zInv S h) (e : ∀ j, j < 175 → S2 j = S j) : zInv S2 h := by
  have hn := zn_le hI
  have eB : ∀ b k, b < 10 → k < 12 → zB S2 b k = zB S b k := fun b k hb hk => e _ (by omega)
  have eT : ∀ t k, t < 6 → k < 4 → zT S2 t k = zT S t k := fun t k ht hk => e _ (by omega)
  have eG : ∀ g k, g < 5 → k < 5 → zG S2 g k = zG S g k := fun g k hg hk => e _ (by omega)
  have en : ∀ i, i < 6 → zn S2 i = zn S i := fun i hi => by unfold zn; rw [e i (by omega)]
  have ea : ∀ b, zat S2 b = zat S b := fun b => by
    unfold zat
    rw [en 1 (by decide)]
    exact zf_ext (fun t ht => by rw [eT t 0 (by omega) (by decide)])
  obtain ⟨h1, h2, h3, h4, h5, h6, h7, h8⟩ := hI
  refine ⟨?_, fun b hb => ?_, fun b hb => ?_, fun t ht => ?_, fun g hg => ?_, fun t ht => ?_, fun t u ht hu q => ?_, ?_⟩
  · rw [e 0 (by decide), e 1 (by decide), e 2 (by decide), e 3 (by decide), e 5 (by decide)]; exact h1
  · rw [en 0 (by decide)] at hb
    have := h2 b hb
    unfold zIb at this ⊢
    rw [eB b 0 (by omega) (by decide), eB b 1 (by omega) (by decide), eB b 2 (by omega) (by decide), eB b 3 (by omega) (by decide), eB b 5 (by omega) (by decide), ea, e 2 (by decide)]
    exact this
  · obtain ⟨a1, a2, a3, a4, a5, a6, a7⟩ := h3 b hb
    unfold zIc
    rw [eB b 4 hb (by decide), eB b 6 hb (by decide), en 0 (by decide), en 2 (by decide)]
    exact ⟨a1, a2, a3, a4, fun g hg => by rw [eB b (7 + g) hb (by omega)]; exact a5 g hg, fun g hg q => by rw [eB b (7 + g) hb (by omega)]; exact a6 g hg q, fun q => ⟨(a7 q).1, (a7 q).2.1, fun g hg => by rw [eB b (7 + g) hb (by omega)]; exact (a7 q).2.2 g hg⟩⟩
  · have := h4 t ht
    unfold zIt at this ⊢
    rw [eT t 0 ht (by decide), eT t 1 ht (by decide), eT t 2 ht (by decide), eT t 3 ht (by decide)]
    exact this
  · have := h5 g hg
    unfold zIg at this ⊢
    rw [eG g 0 hg (by decide), eG g 1 hg (by decide), eG g 2 hg (by decide), eG g 3 hg (by decide), eG g 4 hg (by decide), en 2 (by decide), show zs 10 (fun b => zB S2 b (7 + g)) = zs 10 (fun b => zB S b (7 + g)) from zs_ext (fun b hb => eB b (7 + g) hb (by omega))]
    exact this
  · rw [en 1 (by decide)] at ht
    rw [eT t 0 (by omega) (by decide), e 0 (by decide)]
    exact h6 t ht
  · rw [en 1 (by decide)] at ht hu
    rw [eT t 0 (by omega) (by decide), eT u 0 (by omega) (by decide)] at q
    rw [eT t 0 (by omega) (by decide)]
    exact h7 t u ht hu q
  · rw [e 4 (by decide), h8]
    exact zs_ext (fun g hg => (eG g 4 hg (by decide)).symm)
theorem zRel_c {W W2 S S2 : zR} {h : Nat} (hI : zInv S h) (hR : zRel W S) (e : ∀ j, j < 175 → S2 j = S j) (f : ∀ j, j < 184 → W2 j = W j) : zRel W2 S2 := by
  have hn := zn_le hI
  have eB : ∀ b k, b < 10 → k < 12 → zB S2 b k = zB S b k := fun b k hb hk => e _ (by omega)
  have eT : ∀ t k, t < 6 → k < 4 → zT S2 t k = zT S t k := fun t k ht hk => e _ (by omega)
  have eG : ∀ g k, g < 5 → k < 5 → zG S2 g k = zG S g k := fun g k hg hk => e _ (by omega)
  have en : ∀ i, i < 6 → zn S2 i = zn S i := fun i hi => by unfold zn; rw [e i (by omega)]
  have ea : ∀ b, zat S2 b = zat S b := fun b => by
    unfold zat
    rw [en 1 (by decide)]
    exact zf_ext (fun t ht => by rw [eT t 0 (by omega) (by decide)])
  have ec : ∀ b k, b < 10 → k < 13 → zcb S2 b k = zcb S b k := fun b k hb hk => by
    unfold zcb
    rw [ea]
    split
    · rfl
    · split
      · exact eB b k hb (by omega)
      · exact eB b (k - 1) hb (by omega)
  obtain ⟨⟨a0, a1, a2, a3, a4⟩, h2, h3, h4, h5⟩ := hR
  refine ⟨?_, fun b k hb hk => ?_, fun b k hb hk k4 k6 => ?_, fun t k ht hk => ?_, fun g k hg hk => ?_⟩
  · rw [f 0 (by decide), f 1 (by decide), f 2 (by decide), f 3 (by decide), f 4 (by decide), e 3 (by decide), e 5 (by decide), e 0 (by decide), e 1 (by decide), e 2 (by decide)]
    exact ⟨a0, a1, a2, a3, a4⟩
  · rw [en 0 (by decide)] at hb
    rw [f _ (by omega), ec b k (by omega) hk]
    exact h2 b k hb hk
  · rw [f _ (by omega), ec b k hb hk]
    exact h3 b k hb hk k4 k6
  · rw [f _ (by omega), eT t k ht hk]
    exact h4 t k ht hk
  · rw [f _ (by omega), eG g k hg hk]
    exact h5 g k hg hk
/-- a world of the class against one of the reference -/
def zrr (W S : zR) (h : Nat) : Prop := zRel W S ∧ zInv S h ∧ zJ S
theorem zrr_c {W W2 S S2 : zR} {h : Nat} (H : zrr W S h) (e : ∀ j, j < 175 → S2 j = S j) (f : ∀ j, j < 184 → W2 j = W j) : zrr W2 S2 h :=
  ⟨zRel_c H.2.1 H.1 e f, zInv_c H.2.1 e, fun t ht => by
    have := H.2.2 t ht
    rw [show zT S2 t 3 = zT S t 3 from e _ (by omega), e 3 (by decide)]
    exact this⟩
theorem zrr_up {W S : zR} {h h2 : Nat} (H : zrr W S h) (hl : h ≤ h2) : zrr W S h2 := ⟨H.1, zI_up H.2.1 hl, H.2.2⟩

