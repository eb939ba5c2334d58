/-! THE LAW'S LOOP; written by program (wip/tools/zg/w5.py) -/
theorem zyS_up {s : az_S} {h h2 : Nat} (H : zyS s h) (hl : h ≤ h2) : zyS s h2 := by
  obtain ⟨hW, ⟨p, c, hP⟩, hN, hT, hE, hF, hL⟩ := H
  exact ⟨zrr_up hW hl, ⟨p, c, zyP_c hP hl rfl rfl rfl rfl rfl⟩, zyN_c hN hl rfl rfl rfl rfl, hT, hE, hF, hL⟩
/-- the last six bits -/
theorem aw_63 (x : Int32) : 0 ≤ (x &&& (Int8.ofInt 63).toInt32).toInt ∧ (x &&& (Int8.ofInt 63).toInt32).toInt ≤ 63 := by
  have e : (x &&& (Int8.ofInt 63).toInt32).toBitVec.toNat ≤ 63 := by
    show (x.toBitVec &&& (Int8.ofInt 63).toInt32.toBitVec).toNat ≤ 63
    rw [BitVec.toNat_and, show (Int8.ofInt 63).toInt32.toBitVec.toNat = 63 from by decide]
    exact Nat.and_le_right
  have h2 : (x &&& (Int8.ofInt 63).toInt32).toInt = (((x &&& (Int8.ofInt 63).toInt32).toBitVec.toNat : Nat) : Int) := BitVec.toInt_eq_toNat_of_lt (by omega)
  omega
/-- a switch -/
theorem aw_sw {v : Int32} {p p2 : Nat} {lv : am_L} {st : List Value} {df lo hi off : Int} {offs : Array Int} (h1 : ¬ (v.toInt < lo ∨ hi < v.toInt)) (h2 : offs[(v.toInt - lo).toNat]? = some off) (h3 : ((p : Nat) : Int) + off = ((p2 : Nat) : Int)) {len : Nat} : am_simple (.tableswitch df lo hi offs) len p lv (.int v :: st) = some (p2, lv, st) := by
  show (if v.toInt < lo ∨ hi < v.toInt then (if 0 ≤ (p : Int) + df then some (am_tgt p df, lv, st) else none) else (match offs[(v.toInt - lo).toNat]? with
        | some off => if 0 ≤ (p : Int) + off then some (am_tgt p off, lv, st) else none
        | none => none)) = _
  rw [if_neg h1, h2]
  dsimp only
  rw [if_pos (by omega), show am_tgt p off = p2 from by unfold am_tgt; omega]
theorem aw_sd {v : Int32} {p p2 : Nat} {lv : am_L} {st : List Value} {df lo hi : Int} {offs : Array Int} (h1 : v.toInt < lo ∨ hi < v.toInt) (h3 : ((p : Nat) : Int) + df = ((p2 : Nat) : Int)) {len : Nat} : am_simple (.tableswitch df lo hi offs) len p lv (.int v :: st) = some (p2, lv, st) := by
  show (if v.toInt < lo ∨ hi < v.toInt then (if 0 ≤ (p : Int) + df then some (am_tgt p df, lv, st) else none) else _) = _
  rw [if_pos h1, if_pos (by omega), show am_tgt p df = p2 from by unfold am_tgt; omega]
theorem lc_all {L : Nat} {xs : Nat → Int32} {s : az_S} {gl : Nat → Nat → Int64} {gd : Nat → Nat → UInt64} {N : Nat} {Q : Option Value ⊕ Nat → az_S → (Nat → Nat → Int64) → (Nat → Nat → UInt64) → Prop} {i : Nat} {o6 o7 o8 : Option Value} {h : Nat} (H : zyS s h) (hh : h + 10 ≤ 10000) (hL : i + 5 ≤ L ∧ L < 2147483648) (K : ∀ t gl2 gd2 o6 o7 o8, zyS t (h + 10) → aw_R L xs 14 am_m_L_law 2747 (al i o6 o7 o8) [] t gl2 gd2 N Q) : aw_R L xs 14 am_m_L_law 44 (al i o6 o7 o8) [.int (xs i &&& (Int8.ofInt 63).toInt32)] s gl gd (N + 1) Q := by
  have hK : ∀ q, q ∈ ([(44, .tableswitch 2703 0 43 #[192, 284, 328, 396, 464, 520, 600, 668, 736, 804, 872, 956, 1040, 1096, 1164, 1232, 1300, 1356, 1412, 1480, 1548, 1616, 1684, 1752, 1793, 1806, 1819, 1832, 1888, 1944, 1988, 2001, 2059, 2103, 2147, 2247, 2303, 2359, 2415, 2471, 2536, 2602, 2646, 2659], 192)] : List (Nat × Instr × Nat)) → am_find q.1 am_c_L_law = some q.2 := by decide +kernel
  have hr := aw_63 (xs i)
  have hc : (xs i &&& (Int8.ofInt 63).toInt32).toInt = 0 ∨ (xs i &&& (Int8.ofInt 63).toInt32).toInt = 1 ∨ (xs i &&& (Int8.ofInt 63).toInt32).toInt = 2 ∨ (xs i &&& (Int8.ofInt 63).toInt32).toInt = 3 ∨ (xs i &&& (Int8.ofInt 63).toInt32).toInt = 4 ∨ (xs i &&& (Int8.ofInt 63).toInt32).toInt = 5 ∨ (xs i &&& (Int8.ofInt 63).toInt32).toInt = 6 ∨ (xs i &&& (Int8.ofInt 63).toInt32).toInt = 7 ∨ (xs i &&& (Int8.ofInt 63).toInt32).toInt = 8 ∨ (xs i &&& (Int8.ofInt 63).toInt32).toInt = 9 ∨ (xs i &&& (Int8.ofInt 63).toInt32).toInt = 10 ∨ (xs i &&& (Int8.ofInt 63).toInt32).toInt = 11 ∨ (xs i &&& (Int8.ofInt 63).toInt32).toInt = 12 ∨ (xs i &&& (Int8.ofInt 63).toInt32).toInt = 13 ∨ (xs i &&& (Int8.ofInt 63).toInt32).toInt = 14 ∨ (xs i &&& (Int8.ofInt 63).toInt32).toInt = 15 ∨ (xs i &&& (Int8.ofInt 63).toInt32).toInt = 16 ∨ (xs i &&& (Int8.ofInt 63).toInt32).toInt = 17 ∨ (xs i &&& (Int8.ofInt 63).toInt32).toInt = 18 ∨ (xs i &&& (Int8.ofInt 63).toInt32).toInt = 19 ∨ (xs i &&& (Int8.ofInt 63).toInt32).toInt = 20 ∨ (xs i &&& (Int8.ofInt 63).toInt32).toInt = 21 ∨ (xs i &&& (Int8.ofInt 63).toInt32).toInt = 22 ∨ (xs i &&& (Int8.ofInt 63).toInt32).toInt = 23 ∨ (xs i &&& (Int8.ofInt 63).toInt32).toInt = 24 ∨ (xs i &&& (Int8.ofInt 63).toInt32).toInt = 25 ∨ (xs i &&& (Int8.ofInt 63).toInt32).toInt = 26 ∨ (xs i &&& (Int8.ofInt 63).toInt32).toInt = 27 ∨ (xs i &&& (Int8.ofInt 63).toInt32).toInt = 28 ∨ (xs i &&& (Int8.ofInt 63).toInt32).toInt = 29 ∨ (xs i &&& (Int8.ofInt 63).toInt32).toInt = 30 ∨ (xs i &&& (Int8.ofInt 63).toInt32).toInt = 31 ∨ (xs i &&& (Int8.ofInt 63).toInt32).toInt = 32 ∨ (xs i &&& (Int8.ofInt 63).toInt32).toInt = 33 ∨ (xs i &&& (Int8.ofInt 63).toInt32).toInt = 34 ∨ (xs i &&& (Int8.ofInt 63).toInt32).toInt = 35 ∨ (xs i &&& (Int8.ofInt 63).toInt32).toInt = 36 ∨ (xs i &&& (Int8.ofInt 63).toInt32).toInt = 37 ∨ (xs i &&& (Int8.ofInt 63).toInt32).toInt = 38 ∨ (xs i &&& (Int8.ofInt 63).toInt32).toInt = 39 ∨ (xs i &&& (Int8.ofInt 63).toInt32).toInt = 40 ∨ (xs i &&& (Int8.ofInt 63).toInt32).toInt = 41 ∨ (xs i &&& (Int8.ofInt 63).toInt32).toInt = 42 ∨ (xs i &&& (Int8.ofInt 63).toInt32).toInt = 43 ∨ 43 < (xs i &&& (Int8.ofInt 63).toInt32).toInt := by omega
  generalize xs i &&& (Int8.ofInt 63).toInt32 = v at hc hr ⊢
  rcases hc with e | e | e | e | e | e | e | e | e | e | e | e | e | e | e | e | e | e | e | e | e | e | e | e | e | e | e | e | e | e | e | e | e | e | e | e | e | e | e | e | e | e | e | e | e
  · refine aw_s 236 (al i o6 o7 o8) [] (aw_n hK 0 44 (.tableswitch 2703 0 43 #[192, 284, 328, 396, 464, 520, 600, 668, 736, 804, 872, 956, 1040, 1096, 1164, 1232, 1300, 1356, 1412, 1480, 1548, 1616, 1684, 1752, 1793, 1806, 1819, 1832, 1888, 1944, 1988, 2001, 2059, 2103, 2147, 2247, 2303, 2359, 2415, 2471, 2536, 2602, 2646, 2659]) 192 rfl) (aw_sw (off := 192) (by omega) (by rw [e]; rfl) (by decide)) ?_
    exact lc_bridge H hh hL K
  · refine aw_s 328 (al i o6 o7 o8) [] (aw_n hK 0 44 (.tableswitch 2703 0 43 #[192, 284, 328, 396, 464, 520, 600, 668, 736, 804, 872, 956, 1040, 1096, 1164, 1232, 1300, 1356, 1412, 1480, 1548, 1616, 1684, 1752, 1793, 1806, 1819, 1832, 1888, 1944, 1988, 2001, 2059, 2103, 2147, 2247, 2303, 2359, 2415, 2471, 2536, 2602, 2646, 2659]) 192 rfl) (aw_sw (off := 284) (by omega) (by rw [e]; rfl) (by decide)) ?_
    exact lc_troll H hh hL K
  · refine aw_s 372 (al i o6 o7 o8) [] (aw_n hK 0 44 (.tableswitch 2703 0 43 #[192, 284, 328, 396, 464, 520, 600, 668, 736, 804, 872, 956, 1040, 1096, 1164, 1232, 1300, 1356, 1412, 1480, 1548, 1616, 1684, 1752, 1793, 1806, 1819, 1832, 1888, 1944, 1988, 2001, 2059, 2103, 2147, 2247, 2303, 2359, 2415, 2471, 2536, 2602, 2646, 2659]) 192 rfl) (aw_sw (off := 328) (by omega) (by rw [e]; rfl) (by decide)) ?_
    exact lc_goat H hh hL K
  · refine aw_s 440 (al i o6 o7 o8) [] (aw_n hK 0 44 (.tableswitch 2703 0 43 #[192, 284, 328, 396, 464, 520, 600, 668, 736, 804, 872, 956, 1040, 1096, 1164, 1232, 1300, 1356, 1412, 1480, 1548, 1616, 1684, 1752, 1793, 1806, 1819, 1832, 1888, 1944, 1988, 2001, 2059, 2103, 2147, 2247, 2303, 2359, 2415, 2471, 2536, 2602, 2646, 2659]) 192 rfl) (aw_sw (off := 396) (by omega) (by rw [e]; rfl) (by decide)) ?_
    exact lc_post H hh hL K
  · refine aw_s 508 (al i o6 o7 o8) [] (aw_n hK 0 44 (.tableswitch 2703 0 43 #[192, 284, 328, 396, 464, 520, 600, 668, 736, 804, 872, 956, 1040, 1096, 1164, 1232, 1300, 1356, 1412, 1480, 1548, 1616, 1684, 1752, 1793, 1806, 1819, 1832, 1888, 1944, 1988, 2001, 2059, 2103, 2147, 2247, 2303, 2359, 2415, 2471, 2536, 2602, 2646, 2659]) 192 rfl) (aw_sw (off := 464) (by omega) (by rw [e]; rfl) (by decide)) ?_
    exact lc_leave H hh hL K
  · refine aw_s 564 (al i o6 o7 o8) [] (aw_n hK 0 44 (.tableswitch 2703 0 43 #[192, 284, 328, 396, 464, 520, 600, 668, 736, 804, 872, 956, 1040, 1096, 1164, 1232, 1300, 1356, 1412, 1480, 1548, 1616, 1684, 1752, 1793, 1806, 1819, 1832, 1888, 1944, 1988, 2001, 2059, 2103, 2147, 2247, 2303, 2359, 2415, 2471, 2536, 2602, 2646, 2659]) 192 rfl) (aw_sw (off := 520) (by omega) (by rw [e]; rfl) (by decide)) ?_
    exact lc_riddle H hh hL K
  · refine aw_s 644 (al i o6 o7 o8) [] (aw_n hK 0 44 (.tableswitch 2703 0 43 #[192, 284, 328, 396, 464, 520, 600, 668, 736, 804, 872, 956, 1040, 1096, 1164, 1232, 1300, 1356, 1412, 1480, 1548, 1616, 1684, 1752, 1793, 1806, 1819, 1832, 1888, 1944, 1988, 2001, 2059, 2103, 2147, 2247, 2303, 2359, 2415, 2471, 2536, 2602, 2646, 2659]) 192 rfl) (aw_sw (off := 600) (by omega) (by rw [e]; rfl) (by decide)) ?_
    exact lc_fog H hh hL K
  · refine aw_s 712 (al i o6 o7 o8) [] (aw_n hK 0 44 (.tableswitch 2703 0 43 #[192, 284, 328, 396, 464, 520, 600, 668, 736, 804, 872, 956, 1040, 1096, 1164, 1232, 1300, 1356, 1412, 1480, 1548, 1616, 1684, 1752, 1793, 1806, 1819, 1832, 1888, 1944, 1988, 2001, 2059, 2103, 2147, 2247, 2303, 2359, 2415, 2471, 2536, 2602, 2646, 2659]) 192 rfl) (aw_sw (off := 668) (by omega) (by rw [e]; rfl) (by decide)) ?_
    exact lc_price H hh hL K
  · refine aw_s 780 (al i o6 o7 o8) [] (aw_n hK 0 44 (.tableswitch 2703 0 43 #[192, 284, 328, 396, 464, 520, 600, 668, 736, 804, 872, 956, 1040, 1096, 1164, 1232, 1300, 1356, 1412, 1480, 1548, 1616, 1684, 1752, 1793, 1806, 1819, 1832, 1888, 1944, 1988, 2001, 2059, 2103, 2147, 2247, 2303, 2359, 2415, 2471, 2536, 2602, 2646, 2659]) 192 rfl) (aw_sw (off := 736) (by omega) (by rw [e]; rfl) (by decide)) ?_
    exact lc_cross H hh hL K
  · refine aw_s 848 (al i o6 o7 o8) [] (aw_n hK 0 44 (.tableswitch 2703 0 43 #[192, 284, 328, 396, 464, 520, 600, 668, 736, 804, 872, 956, 1040, 1096, 1164, 1232, 1300, 1356, 1412, 1480, 1548, 1616, 1684, 1752, 1793, 1806, 1819, 1832, 1888, 1944, 1988, 2001, 2059, 2103, 2147, 2247, 2303, 2359, 2415, 2471, 2536, 2602, 2646, 2659]) 192 rfl) (aw_sw (off := 804) (by omega) (by rw [e]; rfl) (by decide)) ?_
    exact lc_dispute H hh hL K
  · refine aw_s 916 (al i o6 o7 o8) [] (aw_n hK 0 44 (.tableswitch 2703 0 43 #[192, 284, 328, 396, 464, 520, 600, 668, 736, 804, 872, 956, 1040, 1096, 1164, 1232, 1300, 1356, 1412, 1480, 1548, 1616, 1684, 1752, 1793, 1806, 1819, 1832, 1888, 1944, 1988, 2001, 2059, 2103, 2147, 2247, 2303, 2359, 2415, 2471, 2536, 2602, 2646, 2659]) 192 rfl) (aw_sw (off := 872) (by omega) (by rw [e]; rfl) (by decide)) ?_
    exact lc_settle H hh hL K
  · refine aw_s 1000 (al i o6 o7 o8) [] (aw_n hK 0 44 (.tableswitch 2703 0 43 #[192, 284, 328, 396, 464, 520, 600, 668, 736, 804, 872, 956, 1040, 1096, 1164, 1232, 1300, 1356, 1412, 1480, 1548, 1616, 1684, 1752, 1793, 1806, 1819, 1832, 1888, 1944, 1988, 2001, 2059, 2103, 2147, 2247, 2303, 2359, 2415, 2471, 2536, 2602, 2646, 2659]) 192 rfl) (aw_sw (off := 956) (by omega) (by rw [e]; rfl) (by decide)) ?_
    exact lc_strike H hh hL K
  · refine aw_s 1084 (al i o6 o7 o8) [] (aw_n hK 0 44 (.tableswitch 2703 0 43 #[192, 284, 328, 396, 464, 520, 600, 668, 736, 804, 872, 956, 1040, 1096, 1164, 1232, 1300, 1356, 1412, 1480, 1548, 1616, 1684, 1752, 1793, 1806, 1819, 1832, 1888, 1944, 1988, 2001, 2059, 2103, 2147, 2247, 2303, 2359, 2415, 2471, 2536, 2602, 2646, 2659]) 192 rfl) (aw_sw (off := 1040) (by omega) (by rw [e]; rfl) (by decide)) ?_
    exact lc_pass H hh hL K
  · refine aw_s 1140 (al i o6 o7 o8) [] (aw_n hK 0 44 (.tableswitch 2703 0 43 #[192, 284, 328, 396, 464, 520, 600, 668, 736, 804, 872, 956, 1040, 1096, 1164, 1232, 1300, 1356, 1412, 1480, 1548, 1616, 1684, 1752, 1793, 1806, 1819, 1832, 1888, 1944, 1988, 2001, 2059, 2103, 2147, 2247, 2303, 2359, 2415, 2471, 2536, 2602, 2646, 2659]) 192 rfl) (aw_sw (off := 1096) (by omega) (by rw [e]; rfl) (by decide)) ?_
    exact lc_bridgeOf H hh hL K
  · refine aw_s 1208 (al i o6 o7 o8) [] (aw_n hK 0 44 (.tableswitch 2703 0 43 #[192, 284, 328, 396, 464, 520, 600, 668, 736, 804, 872, 956, 1040, 1096, 1164, 1232, 1300, 1356, 1412, 1480, 1548, 1616, 1684, 1752, 1793, 1806, 1819, 1832, 1888, 1944, 1988, 2001, 2059, 2103, 2147, 2247, 2303, 2359, 2415, 2471, 2536, 2602, 2646, 2659]) 192 rfl) (aw_sw (off := 1164) (by omega) (by rw [e]; rfl) (by decide)) ?_
    exact lc_trollOf H hh hL K
  · refine aw_s 1276 (al i o6 o7 o8) [] (aw_n hK 0 44 (.tableswitch 2703 0 43 #[192, 284, 328, 396, 464, 520, 600, 668, 736, 804, 872, 956, 1040, 1096, 1164, 1232, 1300, 1356, 1412, 1480, 1548, 1616, 1684, 1752, 1793, 1806, 1819, 1832, 1888, 1944, 1988, 2001, 2059, 2103, 2147, 2247, 2303, 2359, 2415, 2471, 2536, 2602, 2646, 2659]) 192 rfl) (aw_sw (off := 1232) (by omega) (by rw [e]; rfl) (by decide)) ?_
    exact lc_goatOf H hh hL K
  · refine aw_s 1344 (al i o6 o7 o8) [] (aw_n hK 0 44 (.tableswitch 2703 0 43 #[192, 284, 328, 396, 464, 520, 600, 668, 736, 804, 872, 956, 1040, 1096, 1164, 1232, 1300, 1356, 1412, 1480, 1548, 1616, 1684, 1752, 1793, 1806, 1819, 1832, 1888, 1944, 1988, 2001, 2059, 2103, 2147, 2247, 2303, 2359, 2415, 2471, 2536, 2602, 2646, 2659]) 192 rfl) (aw_sw (off := 1300) (by omega) (by rw [e]; rfl) (by decide)) ?_
    exact lc_due H hh hL K
  · refine aw_s 1400 (al i o6 o7 o8) [] (aw_n hK 0 44 (.tableswitch 2703 0 43 #[192, 284, 328, 396, 464, 520, 600, 668, 736, 804, 872, 956, 1040, 1096, 1164, 1232, 1300, 1356, 1412, 1480, 1548, 1616, 1684, 1752, 1793, 1806, 1819, 1832, 1888, 1944, 1988, 2001, 2059, 2103, 2147, 2247, 2303, 2359, 2415, 2471, 2536, 2602, 2646, 2659]) 192 rfl) (aw_sw (off := 1356) (by omega) (by rw [e]; rfl) (by decide)) ?_
    exact lc_takes H hh hL K
  · refine aw_s 1456 (al i o6 o7 o8) [] (aw_n hK 0 44 (.tableswitch 2703 0 43 #[192, 284, 328, 396, 464, 520, 600, 668, 736, 804, 872, 956, 1040, 1096, 1164, 1232, 1300, 1356, 1412, 1480, 1548, 1616, 1684, 1752, 1793, 1806, 1819, 1832, 1888, 1944, 1988, 2001, 2059, 2103, 2147, 2247, 2303, 2359, 2415, 2471, 2536, 2602, 2646, 2659]) 192 rfl) (aw_sw (off := 1412) (by omega) (by rw [e]; rfl) (by decide)) ?_
    exact lc_cheapest H hh hL K
  · refine aw_s 1524 (al i o6 o7 o8) [] (aw_n hK 0 44 (.tableswitch 2703 0 43 #[192, 284, 328, 396, 464, 520, 600, 668, 736, 804, 872, 956, 1040, 1096, 1164, 1232, 1300, 1356, 1412, 1480, 1548, 1616, 1684, 1752, 1793, 1806, 1819, 1832, 1888, 1944, 1988, 2001, 2059, 2103, 2147, 2247, 2303, 2359, 2415, 2471, 2536, 2602, 2646, 2659]) 192 rfl) (aw_sw (off := 1480) (by omega) (by rw [e]; rfl) (by decide)) ?_
    exact lc_cheapestAgain H hh hL K
  · refine aw_s 1592 (al i o6 o7 o8) [] (aw_n hK 0 44 (.tableswitch 2703 0 43 #[192, 284, 328, 396, 464, 520, 600, 668, 736, 804, 872, 956, 1040, 1096, 1164, 1232, 1300, 1356, 1412, 1480, 1548, 1616, 1684, 1752, 1793, 1806, 1819, 1832, 1888, 1944, 1988, 2001, 2059, 2103, 2147, 2247, 2303, 2359, 2415, 2471, 2536, 2602, 2646, 2659]) 192 rfl) (aw_sw (off := 1548) (by omega) (by rw [e]; rfl) (by decide)) ?_
    exact lc_fastest H hh hL K
  · refine aw_s 1660 (al i o6 o7 o8) [] (aw_n hK 0 44 (.tableswitch 2703 0 43 #[192, 284, 328, 396, 464, 520, 600, 668, 736, 804, 872, 956, 1040, 1096, 1164, 1232, 1300, 1356, 1412, 1480, 1548, 1616, 1684, 1752, 1793, 1806, 1819, 1832, 1888, 1944, 1988, 2001, 2059, 2103, 2147, 2247, 2303, 2359, 2415, 2471, 2536, 2602, 2646, 2659]) 192 rfl) (aw_sw (off := 1616) (by omega) (by rw [e]; rfl) (by decide)) ?_
    exact lc_fastestAgain H hh hL K
  · refine aw_s 1728 (al i o6 o7 o8) [] (aw_n hK 0 44 (.tableswitch 2703 0 43 #[192, 284, 328, 396, 464, 520, 600, 668, 736, 804, 872, 956, 1040, 1096, 1164, 1232, 1300, 1356, 1412, 1480, 1548, 1616, 1684, 1752, 1793, 1806, 1819, 1832, 1888, 1944, 1988, 2001, 2059, 2103, 2147, 2247, 2303, 2359, 2415, 2471, 2536, 2602, 2646, 2659]) 192 rfl) (aw_sw (off := 1684) (by omega) (by rw [e]; rfl) (by decide)) ?_
    exact lc_hangs H hh hL K
  · refine aw_s 1796 (al i o6 o7 o8) [] (aw_n hK 0 44 (.tableswitch 2703 0 43 #[192, 284, 328, 396, 464, 520, 600, 668, 736, 804, 872, 956, 1040, 1096, 1164, 1232, 1300, 1356, 1412, 1480, 1548, 1616, 1684, 1752, 1793, 1806, 1819, 1832, 1888, 1944, 1988, 2001, 2059, 2103, 2147, 2247, 2303, 2359, 2415, 2471, 2536, 2602, 2646, 2659]) 192 rfl) (aw_sw (off := 1752) (by omega) (by rw [e]; rfl) (by decide)) ?_
    exact lc_sum H hh hL K
  · refine aw_s 1837 (al i o6 o7 o8) [] (aw_n hK 0 44 (.tableswitch 2703 0 43 #[192, 284, 328, 396, 464, 520, 600, 668, 736, 804, 872, 956, 1040, 1096, 1164, 1232, 1300, 1356, 1412, 1480, 1548, 1616, 1684, 1752, 1793, 1806, 1819, 1832, 1888, 1944, 1988, 2001, 2059, 2103, 2147, 2247, 2303, 2359, 2415, 2471, 2536, 2602, 2646, 2659]) 192 rfl) (aw_sw (off := 1793) (by omega) (by rw [e]; rfl) (by decide)) ?_
    exact lc_counted H hh hL K
  · refine aw_s 1850 (al i o6 o7 o8) [] (aw_n hK 0 44 (.tableswitch 2703 0 43 #[192, 284, 328, 396, 464, 520, 600, 668, 736, 804, 872, 956, 1040, 1096, 1164, 1232, 1300, 1356, 1412, 1480, 1548, 1616, 1684, 1752, 1793, 1806, 1819, 1832, 1888, 1944, 1988, 2001, 2059, 2103, 2147, 2247, 2303, 2359, 2415, 2471, 2536, 2602, 2646, 2659]) 192 rfl) (aw_sw (off := 1806) (by omega) (by rw [e]; rfl) (by decide)) ?_
    exact lc_countedAgain H hh hL K
  · refine aw_s 1863 (al i o6 o7 o8) [] (aw_n hK 0 44 (.tableswitch 2703 0 43 #[192, 284, 328, 396, 464, 520, 600, 668, 736, 804, 872, 956, 1040, 1096, 1164, 1232, 1300, 1356, 1412, 1480, 1548, 1616, 1684, 1752, 1793, 1806, 1819, 1832, 1888, 1944, 1988, 2001, 2059, 2103, 2147, 2247, 2303, 2359, 2415, 2471, 2536, 2602, 2646, 2659]) 192 rfl) (aw_sw (off := 1819) (by omega) (by rw [e]; rfl) (by decide)) ?_
    exact lc_isGeneral H hh hL K
  · refine aw_s 1876 (al i o6 o7 o8) [] (aw_n hK 0 44 (.tableswitch 2703 0 43 #[192, 284, 328, 396, 464, 520, 600, 668, 736, 804, 872, 956, 1040, 1096, 1164, 1232, 1300, 1356, 1412, 1480, 1548, 1616, 1684, 1752, 1793, 1806, 1819, 1832, 1888, 1944, 1988, 2001, 2059, 2103, 2147, 2247, 2303, 2359, 2415, 2471, 2536, 2602, 2646, 2659]) 192 rfl) (aw_sw (off := 1832) (by omega) (by rw [e]; rfl) (by decide)) ?_
    exact lc_richest H hh hL K
  · refine aw_s 1932 (al i o6 o7 o8) [] (aw_n hK 0 44 (.tableswitch 2703 0 43 #[192, 284, 328, 396, 464, 520, 600, 668, 736, 804, 872, 956, 1040, 1096, 1164, 1232, 1300, 1356, 1412, 1480, 1548, 1616, 1684, 1752, 1793, 1806, 1819, 1832, 1888, 1944, 1988, 2001, 2059, 2103, 2147, 2247, 2303, 2359, 2415, 2471, 2536, 2602, 2646, 2659]) 192 rfl) (aw_sw (off := 1888) (by omega) (by rw [e]; rfl) (by decide)) ?_
    exact lc_tired H hh hL K
  · refine aw_s 1988 (al i o6 o7 o8) [] (aw_n hK 0 44 (.tableswitch 2703 0 43 #[192, 284, 328, 396, 464, 520, 600, 668, 736, 804, 872, 956, 1040, 1096, 1164, 1232, 1300, 1356, 1412, 1480, 1548, 1616, 1684, 1752, 1793, 1806, 1819, 1832, 1888, 1944, 1988, 2001, 2059, 2103, 2147, 2247, 2303, 2359, 2415, 2471, 2536, 2602, 2646, 2659]) 192 rfl) (aw_sw (off := 1944) (by omega) (by rw [e]; rfl) (by decide)) ?_
    exact lc_next H hh hL K
  · refine aw_s 2032 (al i o6 o7 o8) [] (aw_n hK 0 44 (.tableswitch 2703 0 43 #[192, 284, 328, 396, 464, 520, 600, 668, 736, 804, 872, 956, 1040, 1096, 1164, 1232, 1300, 1356, 1412, 1480, 1548, 1616, 1684, 1752, 1793, 1806, 1819, 1832, 1888, 1944, 1988, 2001, 2059, 2103, 2147, 2247, 2303, 2359, 2415, 2471, 2536, 2602, 2646, 2659]) 192 rfl) (aw_sw (off := 1988) (by omega) (by rw [e]; rfl) (by decide)) ?_
    exact lc_isWell H hh hL K
  · refine aw_s 2045 (al i o6 o7 o8) [] (aw_n hK 0 44 (.tableswitch 2703 0 43 #[192, 284, 328, 396, 464, 520, 600, 668, 736, 804, 872, 956, 1040, 1096, 1164, 1232, 1300, 1356, 1412, 1480, 1548, 1616, 1684, 1752, 1793, 1806, 1819, 1832, 1888, 1944, 1988, 2001, 2059, 2103, 2147, 2247, 2303, 2359, 2415, 2471, 2536, 2602, 2646, 2659]) 192 rfl) (aw_sw (off := 2001) (by omega) (by rw [e]; rfl) (by decide)) ?_
    exact lc_type H hh hL K
  · refine aw_s 2103 (al i o6 o7 o8) [] (aw_n hK 0 44 (.tableswitch 2703 0 43 #[192, 284, 328, 396, 464, 520, 600, 668, 736, 804, 872, 956, 1040, 1096, 1164, 1232, 1300, 1356, 1412, 1480, 1548, 1616, 1684, 1752, 1793, 1806, 1819, 1832, 1888, 1944, 1988, 2001, 2059, 2103, 2147, 2247, 2303, 2359, 2415, 2471, 2536, 2602, 2646, 2659]) 192 rfl) (aw_sw (off := 2059) (by omega) (by rw [e]; rfl) (by decide)) ?_
    exact lc_read H hh hL K
  · refine aw_s 2147 (al i o6 o7 o8) [] (aw_n hK 0 44 (.tableswitch 2703 0 43 #[192, 284, 328, 396, 464, 520, 600, 668, 736, 804, 872, 956, 1040, 1096, 1164, 1232, 1300, 1356, 1412, 1480, 1548, 1616, 1684, 1752, 1793, 1806, 1819, 1832, 1888, 1944, 1988, 2001, 2059, 2103, 2147, 2247, 2303, 2359, 2415, 2471, 2536, 2602, 2646, 2659]) 192 rfl) (aw_sw (off := 2103) (by omega) (by rw [e]; rfl) (by decide)) ?_
    exact lc_errorPosition H hh hL K
  · refine aw_s 2191 (al i o6 o7 o8) [] (aw_n hK 0 44 (.tableswitch 2703 0 43 #[192, 284, 328, 396, 464, 520, 600, 668, 736, 804, 872, 956, 1040, 1096, 1164, 1232, 1300, 1356, 1412, 1480, 1548, 1616, 1684, 1752, 1793, 1806, 1819, 1832, 1888, 1944, 1988, 2001, 2059, 2103, 2147, 2247, 2303, 2359, 2415, 2471, 2536, 2602, 2646, 2659]) 192 rfl) (aw_sw (off := 2147) (by omega) (by rw [e]; rfl) (by decide)) ?_
    exact lc_refusal H hh hL K
  · refine aw_s 2291 (al i o6 o7 o8) [] (aw_n hK 0 44 (.tableswitch 2703 0 43 #[192, 284, 328, 396, 464, 520, 600, 668, 736, 804, 872, 956, 1040, 1096, 1164, 1232, 1300, 1356, 1412, 1480, 1548, 1616, 1684, 1752, 1793, 1806, 1819, 1832, 1888, 1944, 1988, 2001, 2059, 2103, 2147, 2247, 2303, 2359, 2415, 2471, 2536, 2602, 2646, 2659]) 192 rfl) (aw_sw (off := 2247) (by omega) (by rw [e]; rfl) (by decide)) ?_
    exact lc_show H hh hL K
  · refine aw_s 2347 (al i o6 o7 o8) [] (aw_n hK 0 44 (.tableswitch 2703 0 43 #[192, 284, 328, 396, 464, 520, 600, 668, 736, 804, 872, 956, 1040, 1096, 1164, 1232, 1300, 1356, 1412, 1480, 1548, 1616, 1684, 1752, 1793, 1806, 1819, 1832, 1888, 1944, 1988, 2001, 2059, 2103, 2147, 2247, 2303, 2359, 2415, 2471, 2536, 2602, 2646, 2659]) 192 rfl) (aw_sw (off := 2303) (by omega) (by rw [e]; rfl) (by decide)) ?_
    exact lc_tell H hh hL K
  · refine aw_s 2403 (al i o6 o7 o8) [] (aw_n hK 0 44 (.tableswitch 2703 0 43 #[192, 284, 328, 396, 464, 520, 600, 668, 736, 804, 872, 956, 1040, 1096, 1164, 1232, 1300, 1356, 1412, 1480, 1548, 1616, 1684, 1752, 1793, 1806, 1819, 1832, 1888, 1944, 1988, 2001, 2059, 2103, 2147, 2247, 2303, 2359, 2415, 2471, 2536, 2602, 2646, 2659]) 192 rfl) (aw_sw (off := 2359) (by omega) (by rw [e]; rfl) (by decide)) ?_
    exact lc_written H hh hL K
  · refine aw_s 2459 (al i o6 o7 o8) [] (aw_n hK 0 44 (.tableswitch 2703 0 43 #[192, 284, 328, 396, 464, 520, 600, 668, 736, 804, 872, 956, 1040, 1096, 1164, 1232, 1300, 1356, 1412, 1480, 1548, 1616, 1684, 1752, 1793, 1806, 1819, 1832, 1888, 1944, 1988, 2001, 2059, 2103, 2147, 2247, 2303, 2359, 2415, 2471, 2536, 2602, 2646, 2659]) 192 rfl) (aw_sw (off := 2415) (by omega) (by rw [e]; rfl) (by decide)) ?_
    exact lc_account H hh hL K
  · refine aw_s 2515 (al i o6 o7 o8) [] (aw_n hK 0 44 (.tableswitch 2703 0 43 #[192, 284, 328, 396, 464, 520, 600, 668, 736, 804, 872, 956, 1040, 1096, 1164, 1232, 1300, 1356, 1412, 1480, 1548, 1616, 1684, 1752, 1793, 1806, 1819, 1832, 1888, 1944, 1988, 2001, 2059, 2103, 2147, 2247, 2303, 2359, 2415, 2471, 2536, 2602, 2646, 2659]) 192 rfl) (aw_sw (off := 2471) (by omega) (by rw [e]; rfl) (by decide)) ?_
    exact lc_meanToll H hh hL K
  · refine aw_s 2580 (al i o6 o7 o8) [] (aw_n hK 0 44 (.tableswitch 2703 0 43 #[192, 284, 328, 396, 464, 520, 600, 668, 736, 804, 872, 956, 1040, 1096, 1164, 1232, 1300, 1356, 1412, 1480, 1548, 1616, 1684, 1752, 1793, 1806, 1819, 1832, 1888, 1944, 1988, 2001, 2059, 2103, 2147, 2247, 2303, 2359, 2415, 2471, 2536, 2602, 2646, 2659]) 192 rfl) (aw_sw (off := 2536) (by omega) (by rw [e]; rfl) (by decide)) ?_
    exact lc_countedShare H hh hL K
  · refine aw_s 2646 (al i o6 o7 o8) [] (aw_n hK 0 44 (.tableswitch 2703 0 43 #[192, 284, 328, 396, 464, 520, 600, 668, 736, 804, 872, 956, 1040, 1096, 1164, 1232, 1300, 1356, 1412, 1480, 1548, 1616, 1684, 1752, 1793, 1806, 1819, 1832, 1888, 1944, 1988, 2001, 2059, 2103, 2147, 2247, 2303, 2359, 2415, 2471, 2536, 2602, 2646, 2659]) 192 rfl) (aw_sw (off := 2602) (by omega) (by rw [e]; rfl) (by decide)) ?_
    exact lc_undo H hh hL K
  · refine aw_s 2690 (al i o6 o7 o8) [] (aw_n hK 0 44 (.tableswitch 2703 0 43 #[192, 284, 328, 396, 464, 520, 600, 668, 736, 804, 872, 956, 1040, 1096, 1164, 1232, 1300, 1356, 1412, 1480, 1548, 1616, 1684, 1752, 1793, 1806, 1819, 1832, 1888, 1944, 1988, 2001, 2059, 2103, 2147, 2247, 2303, 2359, 2415, 2471, 2536, 2602, 2646, 2659]) 192 rfl) (aw_sw (off := 2646) (by omega) (by rw [e]; rfl) (by decide)) ?_
    exact lc_save H hh hL K
  · refine aw_s 2703 (al i o6 o7 o8) [] (aw_n hK 0 44 (.tableswitch 2703 0 43 #[192, 284, 328, 396, 464, 520, 600, 668, 736, 804, 872, 956, 1040, 1096, 1164, 1232, 1300, 1356, 1412, 1480, 1548, 1616, 1684, 1752, 1793, 1806, 1819, 1832, 1888, 1944, 1988, 2001, 2059, 2103, 2147, 2247, 2303, 2359, 2415, 2471, 2536, 2602, 2646, 2659]) 192 rfl) (aw_sw (off := 2659) (by omega) (by rw [e]; rfl) (by decide)) ?_
    exact lc_restore H hh hL K
  · refine aw_s 2747 (al i o6 o7 o8) [] (aw_n hK 0 44 (.tableswitch 2703 0 43 #[192, 284, 328, 396, 464, 520, 600, 668, 736, 804, 872, 956, 1040, 1096, 1164, 1232, 1300, 1356, 1412, 1480, 1548, 1616, 1684, 1752, 1793, 1806, 1819, 1832, 1888, 1944, 1988, 2001, 2059, 2103, 2147, 2247, 2303, 2359, 2415, 2471, 2536, 2602, 2646, 2659]) 192 rfl) (aw_sd (by omega) (by decide)) ?_
    exact aw_wk (K _ _ _ _ _ _ (zyS_up H (by omega))) (by omega) (fun _ _ _ _ w => w)
/-- more, or not -/
theorem aw_gt {x y : Int} {p p2 : Nat} {off : Int} {lv : am_L} {st : List Value} (hx : az_in x) (hy : az_in y) (hz : y < x) (h : ((p : Nat) : Int) + off = ((p2 : Nat) : Int)) : am_simple (.if_icmp .gt off) 3 p lv (.int (Int32.ofInt y) :: .int (Int32.ofInt x) :: st) = some (p2, lv, st) := by
  show am_br (am_cond .gt (Int32.ofInt x) (Int32.ofInt y)) p off lv st = _
  unfold am_br
  rw [if_pos (by omega), show am_cond .gt (Int32.ofInt x) (Int32.ofInt y) = true from decide_eq_true ((az_lt hy hx).mpr hz), if_pos rfl, show am_tgt p off = p2 from by unfold am_tgt; omega]
theorem aw_ng {x y : Int} {p : Nat} {off : Int} {lv : am_L} {st : List Value} (hx : az_in x) (hy : az_in y) (hz : ¬ y < x) (h : 0 ≤ ((p : Nat) : Int) + off) : am_simple (.if_icmp .gt off) 3 p lv (.int (Int32.ofInt y) :: .int (Int32.ofInt x) :: st) = some (p + 3, lv, st) := by
  show am_br (am_cond .gt (Int32.ofInt x) (Int32.ofInt y)) p off lv st = _
  unfold am_br
  rw [if_pos h, show am_cond .gt (Int32.ofInt x) (Int32.ofInt y) = false from decide_eq_false (fun w => hz ((az_lt hy hx).mp w))]
  rfl
theorem law_loop {L : Nat} {xs : Nat → Int32} (hL : L ≤ 4990) : ∀ (m q : Nat) (s : az_S) (gl : Nat → Nat → Int64) (gd : Nat → Nat → UInt64) (o6 o7 o8 : Option Value), 5 * q + m = L → zyS s (10 * q) → aw_R L xs 14 am_m_L_law 28 (al (5 * q) o6 o7 o8) [] s gl gd m (fun o _ _ _ => o = .inl (some (.int 1))) := by
  have hK : ∀ q, q ∈ ([(28, .iload 5, 2), (30, .aload_n 0, 1), (31, .arraylength, 1), (32, .iconst 5, 1), (33, .isub, 1), (34, .if_icmp .gt 2719, 3), (37, .aload_n 0, 1), (38, .iload 5, 2), (40, .iaload, 1), (41, .bipush 63, 2), (43, .iand, 1), (44, .tableswitch 2703 0 43 #[192, 284, 328, 396, 464, 520, 600, 668, 736, 804, 872, 956, 1040, 1096, 1164, 1232, 1300, 1356, 1412, 1480, 1548, 1616, 1684, 1752, 1793, 1806, 1819, 1832, 1888, 1944, 1988, 2001, 2059, 2103, 2147, 2247, 2303, 2359, 2415, 2471, 2536, 2602, 2646, 2659], 192), (2747, .iinc 5 5, 3), (2750, .goto (-2722), 3), (2753, .iconst 1, 1), (2754, .ireturn, 1)] : List (Nat × Instr × Nat)) → am_find q.1 am_c_L_law = some q.2 := by decide +kernel
  intro m
  induction m using Nat.strongRecOn with
  | _ m ih =>
    intro q s gl gd o6 o7 o8 hm H
    refine aw_s 30 (al (5 * q) o6 o7 o8) [.int (Int32.ofInt ((5 * q : Nat) : Int))] (aw_n hK 0 28 (.iload 5) 2 rfl) rfl ?_
    refine aw_s 31 (al (5 * q) o6 o7 o8) [.retAddr 0, .int (Int32.ofInt ((5 * q : Nat) : Int))] (aw_n hK 1 30 (.aload_n 0) 1 rfl) rfl ?_
    refine aw_h 32 [.int (Int32.ofInt ((L : Nat) : Int)), .int (Int32.ofInt ((5 * q : Nat) : Int))] s gl gd (aw_n hK 2 31 (.arraylength) 1 rfl) rfl ?_ rfl ?_
    · rw [Int32.ofInt_eq_ofNat]
      first
        | done
        | rfl
    refine aw_s 33 (al (5 * q) o6 o7 o8) [.int (Int32.ofInt 5), .int (Int32.ofInt ((L : Nat) : Int)), .int (Int32.ofInt ((5 * q : Nat) : Int))] (aw_n hK 3 32 (.iconst 5) 1 rfl) rfl ?_
    refine aw_s 34 (al (5 * q) o6 o7 o8) [.int (Int32.ofInt (((L : Nat) : Int) - 5)), .int (Int32.ofInt ((5 * q : Nat) : Int))] (aw_n hK 4 33 (.isub) 1 rfl) ?_ ?_
    · show some (34, _, Value.int (Int32.ofInt ((L : Nat) : Int) - Int32.ofInt 5) :: _) = _
      rw [← Int32.ofInt_sub]
    by_cases hq : ((L : Nat) : Int) - 5 < ((5 * q : Nat) : Int)
    · refine aw_s 2753 (al (5 * q) o6 o7 o8) [] (aw_n hK 5 34 (.if_icmp .gt 2719) 3 rfl) (aw_gt ⟨by omega, by omega⟩ ⟨by omega, by omega⟩ hq (by decide)) ?_
      refine aw_s 2754 (al (5 * q) o6 o7 o8) [.int 1] (aw_n hK 14 2753 (.iconst 1) 1 rfl) rfl ?_
      exact aw_end (aw_n hK 15 2754 (.ireturn) 1 rfl) rfl rfl rfl rfl rfl
    · refine aw_s 37 (al (5 * q) o6 o7 o8) [] (aw_n hK 5 34 (.if_icmp .gt 2719) 3 rfl) (aw_ng ⟨by omega, by omega⟩ ⟨by omega, by omega⟩ hq (by decide)) ?_
      refine aw_s 38 (al (5 * q) o6 o7 o8) [.retAddr 0] (aw_n hK 6 37 (.aload_n 0) 1 rfl) rfl ?_
      refine aw_s 40 (al (5 * q) o6 o7 o8) [.int (Int32.ofInt ((5 * q : Nat) : Int)), .retAddr 0] (aw_n hK 7 38 (.iload 5) 2 rfl) rfl ?_
      refine aw_h 41 [az_e (az_i (xs (5 * q)).toInt)] s gl gd (aw_n hK 8 40 (.iaload) 1 rfl) rfl (aw_xs (z := ((5 * q : Nat) : Int)) ⟨by omega, by omega, by omega⟩) rfl ?_
      refine aw_s 43 (al (5 * q) o6 o7 o8) [.int (Int8.ofInt 63).toInt32, az_e (az_i (xs (5 * q)).toInt)] (aw_n hK 9 41 (.bipush 63) 2 rfl) rfl ?_
      refine aw_s 44 (al (5 * q) o6 o7 o8) [.int (xs (5 * q) &&& (Int8.ofInt 63).toInt32)] (aw_n hK 10 43 (.iand) 1 rfl) ?_ ?_
      · show some (44, _, [Value.int (Int32.ofInt (xs (5 * q)).toInt &&& (Int8.ofInt 63).toInt32)]) = _
        rw [Int32.ofInt_toInt]
      · obtain ⟨m, rfl⟩ : ∃ k, m = k + 5 := ⟨m - 5, by omega⟩
        refine aw_wk (lc_all (N := m) (h := 10 * q) H (by omega) ⟨by omega, by omega⟩ (fun t gl2 gd2 p6 p7 p8 H2 => ?_)) (by omega) (fun _ _ _ _ w => w)
        refine aw_s 2750 (al (5 * (q + 1)) p6 p7 p8) [] (aw_n hK 12 2747 (.iinc 5 5) 3 rfl) ?_ ?_
        · show some (2750, am_sto (al (5 * q) p6 p7 p8) 5 (.int (Int32.ofInt ((5 * q : Nat) : Int) + Int32.ofInt 5)), []) = _
          rw [← Int32.ofInt_add]
          rfl
        · refine aw_s 28 (al (5 * (q + 1)) p6 p7 p8) [] (aw_n hK 13 2750 (.goto (-2722)) 3 rfl) rfl ?_
          exact ih m (by omega) (q + 1) t gl2 gd2 p6 p7 p8 (by omega) H2
