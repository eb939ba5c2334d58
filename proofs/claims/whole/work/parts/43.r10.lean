/-! REFERENCE, 10: words read from the text; written by program (wip/tools/zg/r10.py) -/
/-- how many signs of a word stand at a place; the words; the longest; the first in full -/
def zal (T : Nat → Int) : List Char → Nat → Nat
  | [], _ => 0
  | w :: W, i => if T i = ((w.toNat : Nat) : Int) then 1 + zal T W (i + 1) else 0
def zWd (k : Nat) : List Char := ((am_sx[k + 13]?).getD "").toList
def zwm (T : Nat → Int) (i : Nat) : Nat → Int
  | 0 => 0
  | k + 1 => if ((zal T (zWd k) i : Nat) : Int) < zwm T i k then zwm T i k else ((zal T (zWd k) i : Nat) : Int)
def zwi (T : Nat → Int) (i : Nat) : Int := zf 13 (fun k => decide (zal T (zWd k) i = (zWd k).length))
theorem zWd_ok : ∀ k, k < 13 → ∃ tx, am_sx[k + 13]? = some tx ∧ tx.length ≤ 14 ∧ (∀ c, c ∈ tx.toList → 0 < c.toNat) ∧ zWd k = tx.toList := by
  intro k hk
  have hc : k = 0 ∨ k = 1 ∨ k = 2 ∨ k = 3 ∨ k = 4 ∨ k = 5 ∨ k = 6 ∨ k = 7 ∨ k = 8 ∨ k = 9 ∨ k = 10 ∨ k = 11 ∨ k = 12 := by omega
  rcases hc with rfl | rfl | rfl | rfl | rfl | rfl | rfl | rfl | rfl | rfl | rfl | rfl | rfl <;> exact ⟨_, rfl, by decide, by decide, rfl⟩
theorem zal_le (T : Nat → Int) : ∀ (W : List Char) (i : Nat), zal T W i ≤ W.length
  | [], _ => Nat.le_refl _
  | w :: W, i => by
    have := zal_le T W (i + 1)
    unfold zal
    rw [List.length_cons]
    split <;> omega
theorem zwm_r (T : Nat → Int) (i : Nat) : ∀ k, k ≤ 13 → 0 ≤ zwm T i k ∧ zwm T i k ≤ 14
  | 0, _ => by show (0 : Int) ≤ 0 ∧ (0 : Int) ≤ 14; omega
  | k + 1, hk => by
    have h := zwm_r T i k (by omega)
    obtain ⟨tx, _, h14, _, hW⟩ := zWd_ok k (by omega)
    have h2 := zal_le T (zWd k) i
    rw [show (zWd k).length = tx.length from by rw [hW, String.length_toList]] at h2
    rw [show zwm T i (k + 1) = if ((zal T (zWd k) i : Nat) : Int) < zwm T i k then zwm T i k else ((zal T (zWd k) i : Nat) : Int) from rfl]
    split <;> omega
set_option maxRecDepth 100000 in
set_option maxHeartbeats 800000 in
theorem zs_X10_wordOf {d : Nat} {s : az_S} (hd : 0 ≤ d) {k : Nat} (hk : k < 13) : az_R d am_m_X10_wordOf 0 (az_ini (am_mL am_m_X10_wordOf) [az_i (((k : Nat) : Int))]) [] (s) (az_ret (some (az_x (k + 14))) (s)) := by
  refine az_to 0 (pc2 := 0) (lv2 := [some (az_i (((k : Nat) : Int)))]) (st2 := []) (s2 := s) rfl ?_
  refine az_to 1 (pc2 := 1) (lv2 := [some (az_i (((k : Nat) : Int)))]) (st2 := [az_i (((k : Nat) : Int))]) (s2 := s) rfl ?_
  have h1 : (((k : Nat) : Int) < 0 ∨ 11 < ((k : Nat) : Int)) ∨ ((k : Nat) : Int) = 0 ∨ ((k : Nat) : Int) = 1 ∨ ((k : Nat) : Int) = 2 ∨ ((k : Nat) : Int) = 3 ∨ ((k : Nat) : Int) = 4 ∨ ((k : Nat) : Int) = 5 ∨ ((k : Nat) : Int) = 6 ∨ ((k : Nat) : Int) = 7 ∨ ((k : Nat) : Int) = 8 ∨ ((k : Nat) : Int) = 9 ∨ ((k : Nat) : Int) = 10 ∨ ((k : Nat) : Int) = 11 := by omega
  rcases h1 with h1 | h1 | h1 | h1 | h1 | h1 | h1 | h1 | h1 | h1 | h1 | h1 | h1
  · refine az_swd 112 rfl (by first | assumption | exact ⟨by omega, by omega⟩) h1 (by decide) ?_
    refine az_to 1 (pc2 := 115) (lv2 := [some (az_i (((k : Nat) : Int)))]) (st2 := [az_x 26]) (s2 := s) rfl ?_
    refine az_retX rfl rfl ?_
    obtain rfl : k = 12 := by omega
    exact ⟨rfl, rfl⟩
  · refine az_swc 64 rfl (by first | assumption | exact ⟨by omega, by omega⟩) (by omega) (off := 63) (by rw [h1]; rfl) (by decide) ?_
    refine az_to 1 (pc2 := 67) (lv2 := [some (az_i (((k : Nat) : Int)))]) (st2 := [az_x 14]) (s2 := s) rfl ?_
    refine az_retX rfl rfl ?_
    obtain rfl : k = 0 := by omega
    exact ⟨rfl, rfl⟩
  · refine az_swc 68 rfl (by first | assumption | exact ⟨by omega, by omega⟩) (by omega) (off := 67) (by rw [h1]; rfl) (by decide) ?_
    refine az_to 1 (pc2 := 71) (lv2 := [some (az_i (((k : Nat) : Int)))]) (st2 := [az_x 15]) (s2 := s) rfl ?_
    refine az_retX rfl rfl ?_
    obtain rfl : k = 1 := by omega
    exact ⟨rfl, rfl⟩
  · refine az_swc 72 rfl (by first | assumption | exact ⟨by omega, by omega⟩) (by omega) (off := 71) (by rw [h1]; rfl) (by decide) ?_
    refine az_to 1 (pc2 := 75) (lv2 := [some (az_i (((k : Nat) : Int)))]) (st2 := [az_x 16]) (s2 := s) rfl ?_
    refine az_retX rfl rfl ?_
    obtain rfl : k = 2 := by omega
    exact ⟨rfl, rfl⟩
  · refine az_swc 76 rfl (by first | assumption | exact ⟨by omega, by omega⟩) (by omega) (off := 75) (by rw [h1]; rfl) (by decide) ?_
    refine az_to 1 (pc2 := 79) (lv2 := [some (az_i (((k : Nat) : Int)))]) (st2 := [az_x 17]) (s2 := s) rfl ?_
    refine az_retX rfl rfl ?_
    obtain rfl : k = 3 := by omega
    exact ⟨rfl, rfl⟩
  · refine az_swc 80 rfl (by first | assumption | exact ⟨by omega, by omega⟩) (by omega) (off := 79) (by rw [h1]; rfl) (by decide) ?_
    refine az_to 1 (pc2 := 83) (lv2 := [some (az_i (((k : Nat) : Int)))]) (st2 := [az_x 18]) (s2 := s) rfl ?_
    refine az_retX rfl rfl ?_
    obtain rfl : k = 4 := by omega
    exact ⟨rfl, rfl⟩
  · refine az_swc 84 rfl (by first | assumption | exact ⟨by omega, by omega⟩) (by omega) (off := 83) (by rw [h1]; rfl) (by decide) ?_
    refine az_to 1 (pc2 := 87) (lv2 := [some (az_i (((k : Nat) : Int)))]) (st2 := [az_x 19]) (s2 := s) rfl ?_
    refine az_retX rfl rfl ?_
    obtain rfl : k = 5 := by omega
    exact ⟨rfl, rfl⟩
  · refine az_swc 88 rfl (by first | assumption | exact ⟨by omega, by omega⟩) (by omega) (off := 87) (by rw [h1]; rfl) (by decide) ?_
    refine az_to 1 (pc2 := 91) (lv2 := [some (az_i (((k : Nat) : Int)))]) (st2 := [az_x 20]) (s2 := s) rfl ?_
    refine az_retX rfl rfl ?_
    obtain rfl : k = 6 := by omega
    exact ⟨rfl, rfl⟩
  · refine az_swc 92 rfl (by first | assumption | exact ⟨by omega, by omega⟩) (by omega) (off := 91) (by rw [h1]; rfl) (by decide) ?_
    refine az_to 1 (pc2 := 95) (lv2 := [some (az_i (((k : Nat) : Int)))]) (st2 := [az_x 21]) (s2 := s) rfl ?_
    refine az_retX rfl rfl ?_
    obtain rfl : k = 7 := by omega
    exact ⟨rfl, rfl⟩
  · refine az_swc 96 rfl (by first | assumption | exact ⟨by omega, by omega⟩) (by omega) (off := 95) (by rw [h1]; rfl) (by decide) ?_
    refine az_to 1 (pc2 := 99) (lv2 := [some (az_i (((k : Nat) : Int)))]) (st2 := [az_x 22]) (s2 := s) rfl ?_
    refine az_retX rfl rfl ?_
    obtain rfl : k = 8 := by omega
    exact ⟨rfl, rfl⟩
  · refine az_swc 100 rfl (by first | assumption | exact ⟨by omega, by omega⟩) (by omega) (off := 99) (by rw [h1]; rfl) (by decide) ?_
    refine az_to 1 (pc2 := 103) (lv2 := [some (az_i (((k : Nat) : Int)))]) (st2 := [az_x 23]) (s2 := s) rfl ?_
    refine az_retX rfl rfl ?_
    obtain rfl : k = 9 := by omega
    exact ⟨rfl, rfl⟩
  · refine az_swc 104 rfl (by first | assumption | exact ⟨by omega, by omega⟩) (by omega) (off := 103) (by rw [h1]; rfl) (by decide) ?_
    refine az_to 1 (pc2 := 107) (lv2 := [some (az_i (((k : Nat) : Int)))]) (st2 := [az_x 24]) (s2 := s) rfl ?_
    refine az_retX rfl rfl ?_
    obtain rfl : k = 10 := by omega
    exact ⟨rfl, rfl⟩
  · refine az_swc 108 rfl (by first | assumption | exact ⟨by omega, by omega⟩) (by omega) (off := 107) (by rw [h1]; rfl) (by decide) ?_
    refine az_to 1 (pc2 := 111) (lv2 := [some (az_i (((k : Nat) : Int)))]) (st2 := [az_x 25]) (s2 := s) rfl ?_
    refine az_retX rfl rfl ?_
    obtain rfl : k = 11 := by omega
    exact ⟨rfl, rfl⟩
set_option maxRecDepth 100000 in
set_option maxHeartbeats 800000 in
theorem zs_X10_alikeHere_L2 {d : Nat} {s : az_S} (hd : 1 ≤ d) {n : Nat} {T : Nat → Int} (hT : zTy s n T) {ix : Nat} (hi : ix ≤ n) (hat : s 34 18 = ((ix : Nat) : Int)) {fi : Nat} {tx : String} (htx : am_sx[fi]? = some tx) (h14 : tx.length ≤ 14) (hpos : ∀ c, c ∈ tx.toList → 0 < c.toNat) : ∀ (mq : Nat) (k : Nat), mq = tx.length - k → (k ≤ tx.length) → (zal T tx.toList ix = k + zal T (tx.toList.drop k) (ix + k)) → az_R d am_m_X10_alikeHere 2 [some (az_r 34), some (az_x (fi + 1)), some (az_i (((k : Nat) : Int)))] [] (s) (az_ret (some (az_i (((zal T tx.toList ix : Nat) : Int)))) (s)) := by
  intro mq
  induction mq using Nat.strongRecOn with
  | _ mq ih =>
    intro k hm g0 g1
    have h60 : n ≤ 60 := hT.2.1
    refine az_to 2 (pc2 := 4) (lv2 := [some (az_r 34), some (az_x (fi + 1)), some (az_i (((k : Nat) : Int)))]) (st2 := [az_x (fi + 1), az_i (((k : Nat) : Int))]) (s2 := s) rfl ?_
    refine az_len 7 rfl rfl ⟨rfl, by simp, rfl⟩ htx ?_
    refine az_to 0 (pc2 := 7) (lv2 := [some (az_r 34), some (az_x (fi + 1)), some (az_i (((k : Nat) : Int)))]) (st2 := [az_i (((tx.length : Nat) : Int)), az_i (((k : Nat) : Int))]) (s2 := s) rfl ?_
    refine az_if2 48 10 rfl (by decide) (by first | assumption | exact ⟨by omega, by omega⟩) (by first | assumption | exact ⟨by omega, by omega⟩) (fun h1 => ?_) (fun h1 => ?_)
    · have h1 : ((tx.length : Nat) : Int) ≤ ((k : Nat) : Int) := h1
      refine az_to 1 (pc2 := 49) (lv2 := [some (az_r 34), some (az_x (fi + 1)), some (az_i (((k : Nat) : Int)))]) (st2 := [az_i (((k : Nat) : Int))]) (s2 := s) rfl ?_
      refine az_retI rfl rfl ?_
      have e : zal T tx.toList ix = k := by
        rw [g1, List.drop_eq_nil_of_le (by rw [String.length_toList]; omega)]
        rfl
      exact ⟨by rw [e], rfl⟩
    · have h1 : ¬ (((tx.length : Nat) : Int) ≤ ((k : Nat) : Int)) := h1
      obtain ⟨ch, hch⟩ : ∃ ch, tx.toList[(((k : Nat) : Int)).toNat]? = some ch := ⟨_, List.getElem?_eq_getElem (by rw [String.length_toList, Int.toNat_natCast]; omega)⟩
      have hck : tx.toList[k]? = some ch := by rw [Int.toNat_natCast] at hch; exact hch
      have hdr := zdr hck
      have hcv := zch_lt ch
      have hcp := hpos ch (List.mem_of_getElem? hck)
      rw [hdr] at g1
      have hTn := hT.2.2.2.1 (ix + k)
      have hTr := hT.2.2.2.2 (ix + k)
      have hs41 := hT.2.2.1 (ix + k)
      refine az_to 2 (pc2 := 14) (lv2 := [some (az_r 34), some (az_x (fi + 1)), some (az_i (((k : Nat) : Int)))]) (st2 := [az_i (s 34 18)]) (s2 := s) rfl ?_
      refine az_to 0 (pc2 := 14) (lv2 := [some (az_r 34), some (az_x (fi + 1)), some (az_i (((k : Nat) : Int)))]) (st2 := [az_i (((ix : Nat) : Int))]) (s2 := s) (by rw [show s 34 18 = (((ix) : Nat) : Int) from hat]; rfl) ?_
      refine az_to 4 (pc2 := 20) (lv2 := [some (az_r 34), some (az_x (fi + 1)), some (az_i (((k : Nat) : Int)))]) (st2 := [az_i (s 34 17), az_i ((((ix : Nat) : Int) + ((k : Nat) : Int)))]) (s2 := s) rfl ?_
      refine az_to 0 (pc2 := 20) (lv2 := [some (az_r 34), some (az_x (fi + 1)), some (az_i (((k : Nat) : Int)))]) (st2 := [az_i (((n : Nat) : Int)), az_i ((((ix : Nat) : Int) + ((k : Nat) : Int)))]) (s2 := s) (by rw [show s 34 17 = ((n : Nat) : Int) from hT.1]; rfl) ?_
      refine az_if2 48 23 rfl (by decide) (by first | assumption | exact ⟨by omega, by omega⟩) (by first | assumption | exact ⟨by omega, by omega⟩) (fun h2 => ?_) (fun h2 => ?_)
      · have h2 : ((n : Nat) : Int) ≤ (((ix : Nat) : Int) + ((k : Nat) : Int)) := h2
        refine az_to 1 (pc2 := 49) (lv2 := [some (az_r 34), some (az_x (fi + 1)), some (az_i (((k : Nat) : Int)))]) (st2 := [az_i (((k : Nat) : Int))]) (s2 := s) rfl ?_
        refine az_retI rfl rfl ?_
        have e : zal T tx.toList ix = k := by
          rw [g1, show zal T (ch :: tx.toList.drop (k + 1)) (ix + k) = 0 from if_neg (by omega)]
          rfl
        exact ⟨by rw [e], rfl⟩
      · have h2 : ¬ (((n : Nat) : Int) ≤ (((ix : Nat) : Int) + ((k : Nat) : Int))) := h2
        refine az_to 4 (pc2 := 31) (lv2 := [some (az_r 34), some (az_x (fi + 1)), some (az_i (((k : Nat) : Int)))]) (st2 := [az_i (s 34 18), az_r 41]) (s2 := s) rfl ?_
        refine az_to 0 (pc2 := 31) (lv2 := [some (az_r 34), some (az_x (fi + 1)), some (az_i (((k : Nat) : Int)))]) (st2 := [az_i (((ix : Nat) : Int)), az_r 41]) (s2 := s) (by rw [show s 34 18 = (((ix) : Nat) : Int) from hat]; rfl) ?_
        refine az_to 2 (pc2 := 33) (lv2 := [some (az_r 34), some (az_x (fi + 1)), some (az_i (((k : Nat) : Int)))]) (st2 := [az_i ((((ix : Nat) : Int) + ((k : Nat) : Int))), az_r 41]) (s2 := s) rfl ?_
        refine az_ld_i 34 rfl rfl (by constructor <;> omega) ⟨by decide, rfl⟩ ?_
        refine az_to 0 (pc2 := 34) (lv2 := [some (az_r 34), some (az_x (fi + 1)), some (az_i (((k : Nat) : Int)))]) (st2 := [az_i (s 41 (ix + k))]) (s2 := s) rfl ?_
        refine az_to 2 (pc2 := 36) (lv2 := [some (az_r 34), some (az_x (fi + 1)), some (az_i (((k : Nat) : Int)))]) (st2 := [az_i (((k : Nat) : Int)), az_x (fi + 1), az_i (s 41 (ix + k))]) (s2 := s) rfl ?_
        refine az_chr 39 rfl rfl ⟨rfl, by simp, rfl⟩ htx ⟨by omega, by omega, by omega⟩ hch ?_
        refine az_to 0 (pc2 := 39) (lv2 := [some (az_r 34), some (az_x (fi + 1)), some (az_i (((k : Nat) : Int)))]) (st2 := [az_i (((ch.toNat : Nat) : Int)), az_i (s 41 (ix + k))]) (s2 := s) rfl ?_
        refine az_if2 48 42 rfl (by decide) (by first | assumption | exact ⟨by omega, by omega⟩) (by first | assumption | exact ⟨by omega, by omega⟩) (fun h3 => ?_) (fun h3 => ?_)
        · have h3 : ¬ s 41 (ix + k) = ((ch.toNat : Nat) : Int) := h3
          refine az_to 1 (pc2 := 49) (lv2 := [some (az_r 34), some (az_x (fi + 1)), some (az_i (((k : Nat) : Int)))]) (st2 := [az_i (((k : Nat) : Int))]) (s2 := s) rfl ?_
          refine az_retI rfl rfl ?_
          have e : zal T tx.toList ix = k := by
            rw [g1, show zal T (ch :: tx.toList.drop (k + 1)) (ix + k) = 0 from if_neg (by omega)]
            rfl
          exact ⟨by rw [e], rfl⟩
        · have h3 : s 41 (ix + k) = ((ch.toNat : Nat) : Int) := Decidable.not_not.mp h3
          refine az_to 2 (pc2 := 2) (lv2 := [some (az_r 34), some (az_x (fi + 1)), some (az_i ((((k : Nat) : Int) + 1)))]) (st2 := []) (s2 := s) rfl ?_
          refine ih _ (by omega) (k + 1) rfl (by omega) ?_
          rw [g1, show zal T (ch :: tx.toList.drop (k + 1)) (ix + k) = 1 + zal T (tx.toList.drop (k + 1)) (ix + k + 1) from if_pos (by omega), Nat.add_assoc ix k 1]
          omega
set_option maxRecDepth 100000 in
set_option maxHeartbeats 800000 in
theorem zs_X10_alikeHere {d : Nat} {s : az_S} (hd : 1 ≤ d) {n : Nat} {T : Nat → Int} (hT : zTy s n T) {ix : Nat} (hi : ix ≤ n) (hat : s 34 18 = ((ix : Nat) : Int)) {fi : Nat} {tx : String} (htx : am_sx[fi]? = some tx) (h14 : tx.length ≤ 14) (hpos : ∀ c, c ∈ tx.toList → 0 < c.toNat) : az_R d am_m_X10_alikeHere 0 (az_ini (am_mL am_m_X10_alikeHere) [az_r 34, az_x (fi + 1)]) [] (s) (az_ret (some (az_i (((zal T tx.toList ix : Nat) : Int)))) (s)) := by
  have h60 : n ≤ 60 := hT.2.1
  refine az_to 0 (pc2 := 0) (lv2 := [some (az_r 34), some (az_x (fi + 1)), none]) (st2 := []) (s2 := s) rfl ?_
  refine az_to 2 (pc2 := 2) (lv2 := [some (az_r 34), some (az_x (fi + 1)), some (az_i (0))]) (st2 := []) (s2 := s) rfl ?_
  exact zs_X10_alikeHere_L2 (by omega) hT hi hat htx h14 hpos _ 0 rfl (by omega) (by rw [List.drop_zero, Nat.zero_add]; rfl)
set_option maxRecDepth 100000 in
set_option maxHeartbeats 800000 in
theorem zs_X10_isWord_L4 {d : Nat} {s : az_S} (hd : 3 ≤ d) {n : Nat} {T : Nat → Int} (hT : zTy s n T) {ix : Nat} (hi : ix ≤ n) (hat : s 34 18 = ((ix : Nat) : Int)) : ∀ (mq : Nat) (k : Nat) (x3 : Option az_V), mq = 13 - k → (k ≤ 13) → (∀ i, i < k → decide (zal T (zWd i) ix = (zWd i).length) = false) → az_R d am_m_X10_isWord 4 [some (az_r 34), some (az_i (zwm T ix k)), some (az_i (((k : Nat) : Int))), x3] [] (s) (fun o t => o = .inl (some (az_i (az_b (0 ≤ zwi T ix)))) ∧ (0 ≤ zwi T ix → t 34 20 = zwi T ix ∧ t 34 18 = ((ix + (zWd (zwi T ix).toNat).length : Nat) : Int)) ∧ (¬ 0 ≤ zwi T ix → t 34 18 = ((ix : Nat) : Int) + zwm T ix 13 ∧ t 34 20 = s 34 20) ∧ (∀ j, j ≠ 18 → j ≠ 20 → t 34 j = s 34 j) ∧ ∀ j, j ≠ 34 → t j = s j) := by
  intro mq
  induction mq using Nat.strongRecOn with
  | _ mq ih =>
    intro k x3 hm g0 g1
    have h60 : n ≤ 60 := hT.2.1
    have hzm0 := zwm_r T ix k (by omega)
    refine az_to 2 (pc2 := 7) (lv2 := [some (az_r 34), some (az_i (zwm T ix k)), some (az_i (((k : Nat) : Int))), x3]) (st2 := [az_i (12), az_i (((k : Nat) : Int))]) (s2 := s) rfl ?_
    refine az_if2 59 10 rfl (by decide) (by first | assumption | exact ⟨by omega, by omega⟩) ⟨by decide, by decide⟩ (fun h1 => ?_) (fun h1 => ?_)
    · have h1 : 12 < ((k : Nat) : Int) := h1
      refine az_to 3 (pc2 := 64) (lv2 := [some (az_r 34), some (az_i (zwm T ix k)), some (az_i (((k : Nat) : Int))), x3]) (st2 := [az_i (s 34 18), az_r 34]) (s2 := s) rfl ?_
      refine az_to 0 (pc2 := 64) (lv2 := [some (az_r 34), some (az_i (zwm T ix k)), some (az_i (((k : Nat) : Int))), x3]) (st2 := [az_i (((ix : Nat) : Int)), az_r 34]) (s2 := s) (by rw [show s 34 18 = ((ix : Nat) : Int) from hat]; rfl) ?_
      refine az_to 4 (pc2 := 70) (lv2 := [some (az_r 34), some (az_i (zwm T ix k)), some (az_i (((k : Nat) : Int))), x3]) (st2 := [az_i (0)]) (s2 := am_up s 34 18 ((((ix : Nat) : Int) + zwm T ix k))) rfl ?_
      refine az_retB rfl rfl (by first | decide | omega | exact Or.inl rfl | exact Or.inr rfl) ?_
      obtain rfl : k = 13 := by omega
      have hz : zwi T ix = -1 := zf_none _ _ g1
      rw [hz]
      exact ⟨rfl, fun h => absurd h (by decide), fun _ => ⟨rfl, by simp [am_up]⟩, fun j h1 h2 => by simp [am_up, h1], fun j h1 => by funext b; simp [am_up, h1]⟩
    · have h1 : ¬ (12 < ((k : Nat) : Int)) := h1
      obtain ⟨tx, htx, h14, hpos, hW⟩ := zWd_ok k (by omega)
      have hal := zal_le T tx.toList ix
      rw [String.length_toList] at hal
      have hzm := zwm_r T ix k (by omega)
      refine az_to 2 (pc2 := 12) (lv2 := [some (az_r 34), some (az_i (zwm T ix k)), some (az_i (((k : Nat) : Int))), x3]) (st2 := [az_i (((k : Nat) : Int)), az_r 34]) (s2 := s) rfl ?_
      refine az_clv (v := some (az_x (k + 14))) (t := s) (m2 := am_m_X10_wordOf) (as := [az_i (((k : Nat) : Int))]) (rest := [az_r 34]) 15 rfl rfl ⟨rfl, rfl⟩ (by omega) (zs_X10_wordOf (s := s) (k := k) (by omega) (by omega)) ?_
      refine az_to 0 (pc2 := 15) (lv2 := [some (az_r 34), some (az_i (zwm T ix k)), some (az_i (((k : Nat) : Int))), x3]) (st2 := [az_x (k + 14), az_r 34]) (s2 := s) rfl ?_
      refine az_clv (v := some (az_i (((zal T tx.toList ix : Nat) : Int)))) (t := s) (m2 := am_m_X10_alikeHere) (as := [az_r 34, az_x (k + 14)]) (rest := []) 18 rfl rfl ⟨rfl, rfl⟩ (by omega) (zs_X10_alikeHere (s := s)  (by omega) hT (by omega) hat htx h14 hpos) ?_
      refine az_to 0 (pc2 := 18) (lv2 := [some (az_r 34), some (az_i (zwm T ix k)), some (az_i (((k : Nat) : Int))), x3]) (st2 := [az_i (((zal T tx.toList ix : Nat) : Int))]) (s2 := s) rfl ?_
      refine az_to 3 (pc2 := 21) (lv2 := [some (az_r 34), some (az_i (zwm T ix k)), some (az_i (((k : Nat) : Int))), some (az_i (((zal T tx.toList ix : Nat) : Int)))]) (st2 := [az_i (((k : Nat) : Int)), az_i (((zal T tx.toList ix : Nat) : Int))]) (s2 := s) rfl ?_
      refine az_clv (v := some (az_x (k + 14))) (t := s) (m2 := am_m_X10_wordOf) (as := [az_i (((k : Nat) : Int))]) (rest := [az_i (((zal T tx.toList ix : Nat) : Int))]) 24 rfl rfl ⟨rfl, rfl⟩ (by omega) (zs_X10_wordOf (s := s) (k := k) (by omega) (by omega)) ?_
      refine az_to 0 (pc2 := 24) (lv2 := [some (az_r 34), some (az_i (zwm T ix k)), some (az_i (((k : Nat) : Int))), some (az_i (((zal T tx.toList ix : Nat) : Int)))]) (st2 := [az_x (k + 14), az_i (((zal T tx.toList ix : Nat) : Int))]) (s2 := s) rfl ?_
      refine az_len 27 rfl rfl ⟨rfl, by simp, rfl⟩ htx ?_
      refine az_to 0 (pc2 := 27) (lv2 := [some (az_r 34), some (az_i (zwm T ix k)), some (az_i (((k : Nat) : Int))), some (az_i (((zal T tx.toList ix : Nat) : Int)))]) (st2 := [az_i (((tx.length : Nat) : Int)), az_i (((zal T tx.toList ix : Nat) : Int))]) (s2 := s) rfl ?_
      refine az_if2 47 30 rfl (by decide) (by first | assumption | exact ⟨by omega, by omega⟩) (by first | assumption | exact ⟨by omega, by omega⟩) (fun h2 => ?_) (fun h2 => ?_)
      · have h2 : ¬ ((zal T tx.toList ix : Nat) : Int) = ((tx.length : Nat) : Int) := h2
        refine az_to 2 (pc2 := 49) (lv2 := [some (az_r 34), some (az_i (zwm T ix k)), some (az_i (((k : Nat) : Int))), some (az_i (((zal T tx.toList ix : Nat) : Int)))]) (st2 := [az_i (((zal T tx.toList ix : Nat) : Int)), az_i (zwm T ix k)]) (s2 := s) rfl ?_
        refine az_clv (v := some (az_i ((if (((zal T tx.toList ix : Nat) : Int)) < (zwm T ix k) then (zwm T ix k) else (((zal T tx.toList ix : Nat) : Int)))))) (t := s) (m2 := am_m_X10_greater) (as := [az_i (zwm T ix k), az_i (((zal T tx.toList ix : Nat) : Int))]) (rest := []) 52 rfl rfl ⟨rfl, rfl⟩ (by omega) (zs_X10_greater (s := s) (x := (zwm T ix k)) (y := (((zal T tx.toList ix : Nat) : Int))) (by omega) (by first | assumption | exact ⟨by omega, by omega⟩) (by first | assumption | exact ⟨by omega, by omega⟩)) ?_
        refine az_to 0 (pc2 := 52) (lv2 := [some (az_r 34), some (az_i (zwm T ix k)), some (az_i (((k : Nat) : Int))), some (az_i (((zal T tx.toList ix : Nat) : Int)))]) (st2 := [az_i ((if (((zal T tx.toList ix : Nat) : Int)) < (zwm T ix k) then (zwm T ix k) else (((zal T tx.toList ix : Nat) : Int))))]) (s2 := s) rfl ?_
        refine az_to 3 (pc2 := 4) (lv2 := [some (az_r 34), some (az_i ((if (((zal T tx.toList ix : Nat) : Int)) < (zwm T ix k) then (zwm T ix k) else (((zal T tx.toList ix : Nat) : Int))))), some (az_i ((((k : Nat) : Int) + 1))), some (az_i (((zal T tx.toList ix : Nat) : Int)))]) (st2 := []) (s2 := s) rfl ?_
        rw [← hW]
        exact ih _ (by omega) (k + 1) _ rfl (by omega) (fun i hi => by
          by_cases q : i = k
          · rw [q, decide_eq_false_iff_not, hW, String.length_toList]; omega
          · exact g1 i (by omega))
      · have h2 : ((zal T tx.toList ix : Nat) : Int) = ((tx.length : Nat) : Int) := Decidable.not_not.mp h2
        refine az_to 6 (pc2 := 40) (lv2 := [some (az_r 34), some (az_i (zwm T ix k)), some (az_i (((k : Nat) : Int))), some (az_i (((zal T tx.toList ix : Nat) : Int)))]) (st2 := [az_i ((am_up s 34 20 (((k : Nat) : Int))) 34 18), az_r 34]) (s2 := am_up s 34 20 (((k : Nat) : Int))) rfl ?_
        refine az_to 0 (pc2 := 40) (lv2 := [some (az_r 34), some (az_i (zwm T ix k)), some (az_i (((k : Nat) : Int))), some (az_i (((zal T tx.toList ix : Nat) : Int)))]) (st2 := [az_i (((ix : Nat) : Int)), az_r 34]) (s2 := am_up s 34 20 (((k : Nat) : Int))) (by rw [show (am_up s 34 20 (((k : Nat) : Int))) 34 18 = ((ix : Nat) : Int) from hat]; rfl) ?_
        refine az_to 4 (pc2 := 46) (lv2 := [some (az_r 34), some (az_i (zwm T ix k)), some (az_i (((k : Nat) : Int))), some (az_i (((zal T tx.toList ix : Nat) : Int)))]) (st2 := [az_i (1)]) (s2 := am_up (am_up s 34 20 (((k : Nat) : Int))) 34 18 ((((ix : Nat) : Int) + ((zal T tx.toList ix : Nat) : Int)))) rfl ?_
        refine az_retB rfl rfl (by first | decide | omega | exact Or.inl rfl | exact Or.inr rfl) ?_
        have hf : decide (zal T (zWd k) ix = (zWd k).length) = true := by rw [decide_eq_true_eq, hW, String.length_toList]; omega
        have hz : zwi T ix = ((k : Nat) : Int) := zf_first _ _ k (by omega) hf g1
        rw [hz]
        refine ⟨by rw [az_b1 (by omega)], fun _ => ⟨rfl, ?_⟩, fun h => absurd h (by omega), fun j h1 h2 => by simp [am_up, h1, h2], fun j h1 => by funext b; simp [am_up, h1]⟩
        show ((ix : Nat) : Int) + _ = _
        rw [Int.toNat_natCast, hW, String.length_toList]
        omega
set_option maxRecDepth 100000 in
set_option maxHeartbeats 800000 in
theorem zs_X10_isWord {d : Nat} {s : az_S} (hd : 3 ≤ d) {n : Nat} {T : Nat → Int} (hT : zTy s n T) {ix : Nat} (hi : ix ≤ n) (hat : s 34 18 = ((ix : Nat) : Int)) : az_R d am_m_X10_isWord 0 (az_ini (am_mL am_m_X10_isWord) [az_r 34]) [] (s) (fun o t => o = .inl (some (az_i (az_b (0 ≤ zwi T ix)))) ∧ (0 ≤ zwi T ix → t 34 20 = zwi T ix ∧ t 34 18 = ((ix + (zWd (zwi T ix).toNat).length : Nat) : Int)) ∧ (¬ 0 ≤ zwi T ix → t 34 18 = ((ix : Nat) : Int) + zwm T ix 13 ∧ t 34 20 = s 34 20) ∧ (∀ j, j ≠ 18 → j ≠ 20 → t 34 j = s 34 j) ∧ ∀ j, j ≠ 34 → t j = s j) := by
  have h60 : n ≤ 60 := hT.2.1
  refine az_to 0 (pc2 := 0) (lv2 := [some (az_r 34), none, none, none]) (st2 := []) (s2 := s) rfl ?_
  refine az_to 4 (pc2 := 4) (lv2 := [some (az_r 34), some (az_i (0)), some (az_i (0)), none]) (st2 := []) (s2 := s) rfl ?_
  exact zs_X10_isWord_L4 (by omega) hT hi hat _ 0 _ rfl (by omega) (fun i hi => absurd hi (by omega))
