/-! THE LAW'S CASES; written by program (wip/tools/zg/w2.py) -/
theorem aw_m {K : List (Nat × Instr × Nat)} (hK : ∀ q, q ∈ K → am_find q.1 am_c_L_law = some q.2) (j : Nat) {q : Nat × Instr × Nat} (h : K[j]? = some q) : am_find q.1 (am_c am_m_L_law) = some q.2 := hK q (List.mem_of_getElem? h)
theorem aw_n {K : List (Nat × Instr × Nat)} (hK : ∀ q, q ∈ K → am_find q.1 am_c_L_law = some q.2) (j pc : Nat) (ins : Instr) (len : Nat) (h : K[j]? = some (pc, ins, len)) : am_find pc (am_c am_m_L_law) = some (ins, len) := hK (pc, ins, len) (List.mem_of_getElem? h)
/-- the law's locals -/
def al (i : Nat) (o6 o7 o8 : Option Value) : am_L := [some (.retAddr 0), some (.ref 0), some (.ref 34), some (.ref 43), some (.ref 44), some (az_e (az_i ((i : Nat) : Int))), o6, o7, o8]
section ALR
variable {L : Nat} {xs : Nat → Int32} {s : az_S} {gl : Nat → Nat → Int64} {gd : Nat → Nat → UInt64} {N : Nat} {Q : Option Value ⊕ Nat → az_S → (Nat → Nat → Int64) → (Nat → Nat → UInt64) → Prop} {i : Nat} {o6 o7 o8 : Option Value} {st : List Value}
/-- an int of the script onto the stack -/
theorem aw_ai {p j : Nat} (f1 : am_find p (am_c am_m_L_law) = some (.aload_n 0, 1)) (f2 : am_find (p + 1) (am_c am_m_L_law) = some (.iload 5, 2)) (f3 : am_find (p + 3) (am_c am_m_L_law) = some (.iconst ((j : Nat) : Int), 1)) (f4 : am_find (p + 4) (am_c am_m_L_law) = some (.iadd, 1)) (f5 : am_find (p + 5) (am_c am_m_L_law) = some (.iaload, 1)) (hj : i + j < L ∧ L < 2147483648)
    (H : aw_R L xs 14 am_m_L_law (p + 6) (al i o6 o7 o8) (az_e (az_i (xs (i + j)).toInt) :: st) s gl gd N Q) : aw_R L xs 14 am_m_L_law p (al i o6 o7 o8) st s gl gd N Q := by
  refine aw_s (p + 1) (al i o6 o7 o8) (.retAddr 0 :: st) f1 rfl ?_
  refine aw_s (p + 3) (al i o6 o7 o8) (.int (Int32.ofInt ((i : Nat) : Int)) :: .retAddr 0 :: st) f2 rfl ?_
  refine aw_s (p + 4) (al i o6 o7 o8) (.int (Int32.ofInt ((j : Nat) : Int)) :: .int (Int32.ofInt ((i : Nat) : Int)) :: .retAddr 0 :: st) f3 rfl ?_
  refine aw_s (p + 5) (al i o6 o7 o8) (.int (Int32.ofInt ((i + j : Nat) : Int)) :: .retAddr 0 :: st) f4 ?_ ?_
  · show some (p + 4 + 1, al i o6 o7 o8, Value.int (Int32.ofInt ((i : Nat) : Int) + Int32.ofInt ((j : Nat) : Int)) :: .retAddr 0 :: st) = _
    rw [← Int32.ofInt_add]
    rfl
  · refine aw_h (p + 6) _ s gl gd f5 rfl (aw_xs (z := ((i + j : Nat) : Int)) ⟨by omega, by omega, hj.2⟩) rfl ?_
    exact H
/-- yes or no -/
theorem aw_b0 {p : Nat} {z : Int} (f1 : am_find p (am_c am_m_L_law) = some (.ifCond .eq 7, 3)) (f4 : am_find (p + 7) (am_c am_m_L_law) = some (.iconst 0, 1)) (hz : z = 0) (H : aw_R L xs 14 am_m_L_law (p + 8) (al i o6 o7 o8) (az_e (az_i 0) :: st) s gl gd N Q) : aw_R L xs 14 am_m_L_law p (al i o6 o7 o8) (az_e (az_i z) :: st) s gl gd N Q := by
  subst hz
  refine aw_s (p + 7) (al i o6 o7 o8) st f1 ?_ ?_
  · show am_br (am_cond .eq (Int32.ofInt 0) 0) p 7 (al i o6 o7 o8) st = _
    unfold am_br
    rw [if_pos (by omega), show am_cond .eq (Int32.ofInt 0) 0 = true from rfl, if_pos rfl, show am_tgt p 7 = p + 7 from by unfold am_tgt; omega]
  · refine aw_s (p + 8) (al i o6 o7 o8) (az_e (az_i 0) :: st) f4 rfl ?_
    exact H
theorem aw_b1 {p : Nat} {z : Int} (f1 : am_find p (am_c am_m_L_law) = some (.ifCond .eq 7, 3)) (f2 : am_find (p + 3) (am_c am_m_L_law) = some (.iconst 1, 1)) (f3 : am_find (p + 4) (am_c am_m_L_law) = some (.goto 4, 3)) (hz : az_in z ∧ ¬ z = 0) (H : aw_R L xs 14 am_m_L_law (p + 8) (al i o6 o7 o8) (az_e (az_i 1) :: st) s gl gd N Q) : aw_R L xs 14 am_m_L_law p (al i o6 o7 o8) (az_e (az_i z) :: st) s gl gd N Q := by
  refine aw_s (p + 3) (al i o6 o7 o8) st f1 ?_ ?_
  · show am_br (am_cond .eq (Int32.ofInt z) 0) p 7 (al i o6 o7 o8) st = _
    unfold am_br
    have e : am_cond .eq (Int32.ofInt z) 0 = false := by
      show decide (Int32.ofInt z = Int32.ofInt 0) = false
      rw [decide_eq_false_iff_not, az_eq hz.1 ⟨by decide, by decide⟩]
      exact hz.2
    rw [if_pos (by omega), e]
    rfl
  · refine aw_s (p + 4) (al i o6 o7 o8) (az_e (az_i 1) :: st) f2 rfl ?_
    refine aw_s (p + 8) (al i o6 o7 o8) (az_e (az_i 1) :: st) f3 ?_ H
    show (if 0 ≤ ((p + 4 : Nat) : Int) + 4 then some (am_tgt (p + 4) 4, al i o6 o7 o8, az_e (az_i 1) :: st) else none) = _
    rw [if_pos (by omega), show am_tgt (p + 4) 4 = p + 8 from by unfold am_tgt; omega]
theorem aw_ch {p : Nat} {z : Int} (f1 : am_find p (am_c am_m_L_law) = some (.i2c, 1)) (H : aw_R L xs 14 am_m_L_law (p + 1) (al i o6 o7 o8) (az_e (az_i (z % 65536)) :: st) s gl gd N Q) : aw_R L xs 14 am_m_L_law p (al i o6 o7 o8) (az_e (az_i z) :: st) s gl gd N Q := by
  refine aw_s (p + 1) (al i o6 o7 o8) (az_e (az_i (z % 65536)) :: st) f1 ?_ H
  show some (p + 1, al i o6 o7 o8, Value.int ((Int32.ofInt z).toUInt32 % 65536).toInt32 :: st) = _
  rw [az_i2c]
  rfl
theorem aw_x {x : Int32} : az_in x.toInt := ⟨Int32.le_toInt x, Int32.toInt_lt x⟩
/-- two ints alike: the branch is taken -/
theorem aw_if {x : Int32} {p p2 : Nat} {off : Int} {lv : am_L} (h : ((p : Nat) : Int) + off = ((p2 : Nat) : Int)) : am_simple (.if_icmp .eq off) 3 p lv (.int x :: .int x :: st) = some (p2, lv, st) := by
  show am_br (am_cond .eq x x) p off lv st = _
  unfold am_br
  rw [if_pos (by omega), show am_cond .eq x x = true from decide_eq_true rfl, if_pos rfl, show am_tgt p off = p2 from by unfold am_tgt; omega]
theorem aw_cmp (x : Int64) : lg_cmp x x = 0 := by
  unfold lg_cmp
  simp
/-- what the law asks behind the reference's answer -/
def awTl (p : Nat) (off : Int) : List (Nat × Instr × Nat) := [(p, .istore 7, 2), (p + 2, .aload_n 2, 1), (p + 3, .invokevirtual 156, 3), (p + 6, .iload 6, 2), (p + 8, .if_icmp .eq 5, 3), (p + 13, .iload 6, 2), (p + 15, .ifCond .ne 15, 3), (p + 18, .aload_n 3, 1), (p + 19, .iconst 0, 1), (p + 20, .laload, 1), (p + 21, .iload 7, 2), (p + 23, .i2l, 1), (p + 24, .lcmp, 1), (p + 25, .ifCond .eq 5, 3), (p + 30, .goto off, 3)]
theorem aw_tail {p : Nat} {off : Int} (hK : ∀ q, q ∈ awTl p off → am_find q.1 am_c_L_law = some q.2) (ho : ((p + 30 : Nat) : Int) + off = 2747) {k : Nat} {v : Int} (hk : k ≤ 3) (h6 : s 34 6 = ((k : Nat) : Int)) (hv : k = 0 → gl 43 0 = (Int32.ofInt v).toInt64)
    (H : ∀ o7, aw_R L xs 14 am_m_L_law 2747 (al i (some (az_e (az_i ((k : Nat) : Int)))) o7 o8) [] s gl gd N Q) : aw_R L xs 14 am_m_L_law p (al i (some (az_e (az_i ((k : Nat) : Int)))) o7 o8) [az_e (az_i v)] s gl gd N Q := by
  refine aw_s (p + 2) (al i (some (az_e (az_i ((k : Nat) : Int)))) (some (az_e (az_i v))) o8) [] (aw_m hK 0 rfl) rfl ?_
  refine aw_s (p + 3) _ [.ref 34] (aw_m hK 1 rfl) rfl ?_
  refine aw_c (d := 13) (p + 6) (st := [az_r 34]) (aw_m hK 2 rfl) rfl rfl (zs_X10_thrown (s := s) (by decide)) (fun v9 t q => ?_) (fun E t q => by cases q.1)
  obtain ⟨q1, rfl⟩ := q
  cases q1
  show aw_R L xs 14 am_m_L_law (p + 6) _ [az_e (az_i (t 34 6))] t gl gd N Q
  rw [h6]
  refine aw_s (p + 8) _ [az_e (az_i ((k : Nat) : Int)), az_e (az_i ((k : Nat) : Int))] (aw_m hK 3 rfl) rfl ?_
  refine aw_s (p + 13) _ [] (aw_m hK 4 rfl) (aw_if (by omega)) ?_
  refine aw_s (p + 15) _ [az_e (az_i ((k : Nat) : Int))] (aw_m hK 5 rfl) rfl ?_
  have last : aw_R L xs 14 am_m_L_law (p + 30) (al i (some (az_e (az_i ((k : Nat) : Int)))) (some (az_e (az_i v))) o8) [] t gl gd N Q := by
    refine aw_s 2747 _ [] (aw_m hK 14 rfl) ?_ (H (some (az_e (az_i v))))
    show (if 0 ≤ ((p + 30 : Nat) : Int) + off then some (am_tgt (p + 30) off, _, []) else none) = _
    rw [if_pos (by omega), show am_tgt (p + 30) off = 2747 from by unfold am_tgt; omega]
  by_cases q : k = 0
  · subst q
    refine aw_s (p + 18) (al i (some (az_e (az_i ((0 : Nat) : Int)))) (some (az_e (az_i v))) o8) [] (aw_m hK 6 rfl) ?_ ?_
    · show am_br (am_cond .ne (Int32.ofInt 0) 0) (p + 15) 15 _ [] = _
      unfold am_br
      rw [if_pos (by omega)]
      rfl
    · refine aw_s (p + 19) _ [.ref 43] (aw_m hK 7 rfl) rfl ?_
      refine aw_s (p + 20) _ [.int (Int32.ofInt 0), .ref 43] (aw_m hK 8 rfl) rfl ?_
      refine aw_h (p + 21) [.long (gl 43 0)] t gl gd (aw_m hK 9 rfl) rfl aw_ll rfl ?_
      rw [hv rfl]
      refine aw_s (p + 23) _ [.int (Int32.ofInt v), .long (Int32.ofInt v).toInt64] (aw_m hK 10 rfl) rfl ?_
      refine aw_s (p + 24) _ [.long (Int32.ofInt v).toInt64, .long (Int32.ofInt v).toInt64] (aw_m hK 11 rfl) rfl ?_
      refine aw_s (p + 25) (al i (some (az_e (az_i ((0 : Nat) : Int)))) (some (az_e (az_i v))) o8) [.int 0] (aw_m hK 12 rfl) ?_ ?_
      · show some (p + 24 + 1, _, [Value.int (lg_cmp _ _)]) = _
        rw [aw_cmp]
      · refine aw_s (p + 30) _ [] (aw_m hK 13 rfl) ?_ last
        show am_br (am_cond .eq 0 0) (p + 25) 5 _ [] = _
        unfold am_br
        rw [if_pos (by omega), show am_cond .eq 0 0 = true from rfl, if_pos rfl, show am_tgt (p + 25) 5 = p + 30 from by unfold am_tgt; omega]
  · refine aw_s (p + 30) _ [] (aw_m hK 6 rfl) ?_ last
    show am_br (am_cond .ne (Int32.ofInt ((k : Nat) : Int)) 0) (p + 15) 15 _ [] = _
    unfold am_br
    have e : am_cond .ne (Int32.ofInt ((k : Nat) : Int)) 0 = true := by
      show decide (¬ Int32.ofInt ((k : Nat) : Int) = Int32.ofInt 0) = true
      rw [decide_eq_true_iff, az_eq ⟨by omega, by omega⟩ ⟨by decide, by decide⟩]
      omega
    rw [if_pos (by omega), e, if_pos rfl, show am_tgt (p + 15) 15 = p + 30 from by unfold am_tgt; omega]
theorem awP_0 {d h E : Nat} {mR : am_M1} {lv : az_L} {t : az_S} (q : az_R d mR 0 lv [] t (fun o2 t2 => zMt [] (.inr E) o2 (t2 34 6) ∧ zyS t2 h)) : False := by
  obtain ⟨o2, t2, h1, _⟩ := az_ex q
  rcases h1 with ⟨v0, e1, _⟩ | ⟨j, E2, v0, e1, e2, _⟩
  · cases e1
  · cases e2
end ALR
theorem lc_bridge {L : Nat} {xs : Nat → Int32} {s : az_S} {gl : Nat → Nat → Int64} {gd : Nat → Nat → UInt64} {N : Nat} {Q : Option Value ⊕ Nat → az_S → (Nat → Nat → Int64) → (Nat → Nat → UInt64) → Prop} {i : Nat} {o6 o7 o8 : Option Value} {h : Nat} (H : zyS s h) (hh : h + 10 ≤ 10000) (hL : i + 5 ≤ L ∧ L < 2147483648) (K : ∀ t gl2 gd2 o6 o7 o8, zyS t (h + 10) → aw_R L xs 14 am_m_L_law 2747 (al i o6 o7 o8) [] t gl2 gd2 N Q) : aw_R L xs 14 am_m_L_law 236 (al i o6 o7 o8) [] s gl gd (N + 1) Q := by
  have hK : ∀ q, q ∈ ([(236, .aload_n 1, 1), (237, .aload_n 0, 1), (238, .iload 5, 2), (240, .iconst 1, 1), (241, .iadd, 1), (242, .iaload, 1), (243, .aload_n 0, 1), (244, .iload 5, 2), (246, .iconst 2, 1), (247, .iadd, 1), (248, .iaload, 1), (249, .aload_n 0, 1), (250, .iload 5, 2), (252, .iconst 3, 1), (253, .iadd, 1), (254, .iaload, 1), (255, .aload_n 0, 1), (256, .iload 5, 2), (258, .iconst 4, 1), (259, .iadd, 1), (260, .iaload, 1), (261, .aload_n 3, 1), (262, .invokestatic 150, 3), (265, .istore 6, 2), (267, .aload_n 2, 1), (268, .aload_n 0, 1), (269, .iload 5, 2), (271, .iconst 1, 1), (272, .iadd, 1), (273, .iaload, 1), (274, .aload_n 0, 1), (275, .iload 5, 2), (277, .iconst 2, 1), (278, .iadd, 1), (279, .iaload, 1), (280, .aload_n 0, 1), (281, .iload 5, 2), (283, .iconst 3, 1), (284, .iadd, 1), (285, .iaload, 1), (286, .aload_n 0, 1), (287, .iload 5, 2), (289, .iconst 4, 1), (290, .iadd, 1), (291, .iaload, 1), (292, .invokevirtual 155, 3)] : List (Nat × Instr × Nat)) → am_find q.1 am_c_L_law = some q.2 := by decide +kernel
  refine aw_s 237 (al i o6 o7 o8) (List.map az_e [az_r 0]) (aw_n hK 0 236 (.aload_n 1) 1 rfl) rfl ?_
  refine aw_ai (p := 237) (j := 1) (aw_n hK 1 237 (.aload_n 0) 1 rfl) (aw_n hK 2 238 (.iload 5) 2 rfl) (aw_n hK 3 240 (.iconst 1) 1 rfl) (aw_n hK 4 241 (.iadd) 1 rfl) (aw_n hK 5 242 (.iaload) 1 rfl) ⟨by omega, hL.2⟩ ?_
  refine aw_ai (p := 243) (j := 2) (aw_n hK 6 243 (.aload_n 0) 1 rfl) (aw_n hK 7 244 (.iload 5) 2 rfl) (aw_n hK 8 246 (.iconst 2) 1 rfl) (aw_n hK 9 247 (.iadd) 1 rfl) (aw_n hK 10 248 (.iaload) 1 rfl) ⟨by omega, hL.2⟩ ?_
  refine aw_ai (p := 249) (j := 3) (aw_n hK 11 249 (.aload_n 0) 1 rfl) (aw_n hK 12 250 (.iload 5) 2 rfl) (aw_n hK 13 252 (.iconst 3) 1 rfl) (aw_n hK 14 253 (.iadd) 1 rfl) (aw_n hK 15 254 (.iaload) 1 rfl) ⟨by omega, hL.2⟩ ?_
  refine aw_ai (p := 255) (j := 4) (aw_n hK 16 255 (.aload_n 0) 1 rfl) (aw_n hK 17 256 (.iload 5) 2 rfl) (aw_n hK 18 258 (.iconst 4) 1 rfl) (aw_n hK 19 259 (.iadd) 1 rfl) (aw_n hK 20 260 (.iaload) 1 rfl) ⟨by omega, hL.2⟩ ?_
  refine aw_s 262 (al i o6 o7 o8) (List.map az_e [az_r 43, az_i (xs (i + 4)).toInt, az_i (xs (i + 3)).toInt, az_i (xs (i + 2)).toInt, az_i (xs (i + 1)).toInt, az_r 0]) (aw_n hK 21 261 (.aload_n 3) 1 rfl) rfl ?_
  refine aw_w (d := 13) (N1 := 1) (N2 := N) 265 (st := [az_r 43, az_i (xs (i + 4)).toInt, az_i (xs (i + 3)).toInt, az_i (xs (i + 2)).toInt, az_i (xs (i + 1)).toInt, az_r 0]) (aw_n hK 22 262 (.invokestatic 150) 3 rfl) rfl rfl (by omega) (wl_bridge (zc_bridge H hh aw_x aw_x aw_x aw_x)) (fun v t gl2 gd2 q => ?_) (fun E t gl2 gd2 q => by obtain ⟨_, k, _, w, _⟩ := q; cases w)
  obtain ⟨rfl, k, hk, e, q⟩ := q
  cases e
  refine aw_s 267 (al i (some (az_e (az_i ((k : Nat) : Int)))) o7 o8) [] (aw_n hK 23 265 (.istore 6) 2 rfl) rfl ?_
  refine aw_s 268 (al i (some (az_e (az_i ((k : Nat) : Int)))) o7 o8) (List.map az_e [az_r 34]) (aw_n hK 24 267 (.aload_n 2) 1 rfl) rfl ?_
  refine aw_ai (p := 268) (j := 1) (aw_n hK 25 268 (.aload_n 0) 1 rfl) (aw_n hK 26 269 (.iload 5) 2 rfl) (aw_n hK 27 271 (.iconst 1) 1 rfl) (aw_n hK 28 272 (.iadd) 1 rfl) (aw_n hK 29 273 (.iaload) 1 rfl) ⟨by omega, hL.2⟩ ?_
  refine aw_ai (p := 274) (j := 2) (aw_n hK 30 274 (.aload_n 0) 1 rfl) (aw_n hK 31 275 (.iload 5) 2 rfl) (aw_n hK 32 277 (.iconst 2) 1 rfl) (aw_n hK 33 278 (.iadd) 1 rfl) (aw_n hK 34 279 (.iaload) 1 rfl) ⟨by omega, hL.2⟩ ?_
  refine aw_ai (p := 280) (j := 3) (aw_n hK 35 280 (.aload_n 0) 1 rfl) (aw_n hK 36 281 (.iload 5) 2 rfl) (aw_n hK 37 283 (.iconst 3) 1 rfl) (aw_n hK 38 284 (.iadd) 1 rfl) (aw_n hK 39 285 (.iaload) 1 rfl) ⟨by omega, hL.2⟩ ?_
  refine aw_ai (p := 286) (j := 4) (aw_n hK 40 286 (.aload_n 0) 1 rfl) (aw_n hK 41 287 (.iload 5) 2 rfl) (aw_n hK 42 289 (.iconst 4) 1 rfl) (aw_n hK 43 290 (.iadd) 1 rfl) (aw_n hK 44 291 (.iaload) 1 rfl) ⟨by omega, hL.2⟩ ?_
  refine aw_c (d := 13) 295 (st := [az_i (xs (i + 4)).toInt, az_i (xs (i + 3)).toInt, az_i (xs (i + 2)).toInt, az_i (xs (i + 1)).toInt, az_r 34]) (aw_n hK 45 292 (.invokevirtual 155) 3 rfl) rfl rfl (az_deep q (by decide)) (fun v t2 w => ?_) (fun E t2 w => by obtain ⟨_, _, _, w, _⟩ := w; cases w)
  obtain ⟨w1, w2, v2, w3, w4⟩ := w
  cases w3
  exact aw_tail (p := 295) (off := 2422) (by decide +kernel) (by decide) hk w2 w4 (fun o7 => K _ _ _ _ _ _ w1)
theorem lc_troll {L : Nat} {xs : Nat → Int32} {s : az_S} {gl : Nat → Nat → Int64} {gd : Nat → Nat → UInt64} {N : Nat} {Q : Option Value ⊕ Nat → az_S → (Nat → Nat → Int64) → (Nat → Nat → UInt64) → Prop} {i : Nat} {o6 o7 o8 : Option Value} {h : Nat} (H : zyS s h) (hh : h + 10 ≤ 10000) (hL : i + 5 ≤ L ∧ L < 2147483648) (K : ∀ t gl2 gd2 o6 o7 o8, zyS t (h + 10) → aw_R L xs 14 am_m_L_law 2747 (al i o6 o7 o8) [] t gl2 gd2 N Q) : aw_R L xs 14 am_m_L_law 328 (al i o6 o7 o8) [] s gl gd (N + 1) Q := by
  have hK : ∀ q, q ∈ ([(328, .aload_n 1, 1), (329, .aload_n 3, 1), (330, .invokestatic 159, 3), (333, .istore 6, 2), (335, .aload_n 2, 1), (336, .invokevirtual 162, 3)] : List (Nat × Instr × Nat)) → am_find q.1 am_c_L_law = some q.2 := by decide +kernel
  refine aw_s 329 (al i o6 o7 o8) (List.map az_e [az_r 0]) (aw_n hK 0 328 (.aload_n 1) 1 rfl) rfl ?_
  refine aw_s 330 (al i o6 o7 o8) (List.map az_e [az_r 43, az_r 0]) (aw_n hK 1 329 (.aload_n 3) 1 rfl) rfl ?_
  refine aw_w (d := 13) (N1 := 1) (N2 := N) 333 (st := [az_r 43, az_r 0]) (aw_n hK 2 330 (.invokestatic 159) 3 rfl) rfl rfl (by omega) (wl_troll (zc_troll H hh)) (fun v t gl2 gd2 q => ?_) (fun E t gl2 gd2 q => by obtain ⟨_, k, _, w, _⟩ := q; cases w)
  obtain ⟨rfl, k, hk, e, q⟩ := q
  cases e
  refine aw_s 335 (al i (some (az_e (az_i ((k : Nat) : Int)))) o7 o8) [] (aw_n hK 3 333 (.istore 6) 2 rfl) rfl ?_
  refine aw_s 336 (al i (some (az_e (az_i ((k : Nat) : Int)))) o7 o8) (List.map az_e [az_r 34]) (aw_n hK 4 335 (.aload_n 2) 1 rfl) rfl ?_
  refine aw_c (d := 13) 339 (st := [az_r 34]) (aw_n hK 5 336 (.invokevirtual 162) 3 rfl) rfl rfl (az_deep q (by decide)) (fun v t2 w => ?_) (fun E t2 w => by obtain ⟨_, _, _, w, _⟩ := w; cases w)
  obtain ⟨w1, w2, v2, w3, w4⟩ := w
  cases w3
  exact aw_tail (p := 339) (off := 2378) (by decide +kernel) (by decide) hk w2 w4 (fun o7 => K _ _ _ _ _ _ w1)
theorem lc_goat {L : Nat} {xs : Nat → Int32} {s : az_S} {gl : Nat → Nat → Int64} {gd : Nat → Nat → UInt64} {N : Nat} {Q : Option Value ⊕ Nat → az_S → (Nat → Nat → Int64) → (Nat → Nat → UInt64) → Prop} {i : Nat} {o6 o7 o8 : Option Value} {h : Nat} (H : zyS s h) (hh : h + 10 ≤ 10000) (hL : i + 5 ≤ L ∧ L < 2147483648) (K : ∀ t gl2 gd2 o6 o7 o8, zyS t (h + 10) → aw_R L xs 14 am_m_L_law 2747 (al i o6 o7 o8) [] t gl2 gd2 N Q) : aw_R L xs 14 am_m_L_law 372 (al i o6 o7 o8) [] s gl gd (N + 1) Q := by
  have hK : ∀ q, q ∈ ([(372, .aload_n 1, 1), (373, .aload_n 0, 1), (374, .iload 5, 2), (376, .iconst 1, 1), (377, .iadd, 1), (378, .iaload, 1), (379, .aload_n 0, 1), (380, .iload 5, 2), (382, .iconst 2, 1), (383, .iadd, 1), (384, .iaload, 1), (385, .aload_n 3, 1), (386, .invokestatic 163, 3), (389, .istore 6, 2), (391, .aload_n 2, 1), (392, .aload_n 0, 1), (393, .iload 5, 2), (395, .iconst 1, 1), (396, .iadd, 1), (397, .iaload, 1), (398, .aload_n 0, 1), (399, .iload 5, 2), (401, .iconst 2, 1), (402, .iadd, 1), (403, .iaload, 1), (404, .invokevirtual 166, 3)] : List (Nat × Instr × Nat)) → am_find q.1 am_c_L_law = some q.2 := by decide +kernel
  refine aw_s 373 (al i o6 o7 o8) (List.map az_e [az_r 0]) (aw_n hK 0 372 (.aload_n 1) 1 rfl) rfl ?_
  refine aw_ai (p := 373) (j := 1) (aw_n hK 1 373 (.aload_n 0) 1 rfl) (aw_n hK 2 374 (.iload 5) 2 rfl) (aw_n hK 3 376 (.iconst 1) 1 rfl) (aw_n hK 4 377 (.iadd) 1 rfl) (aw_n hK 5 378 (.iaload) 1 rfl) ⟨by omega, hL.2⟩ ?_
  refine aw_ai (p := 379) (j := 2) (aw_n hK 6 379 (.aload_n 0) 1 rfl) (aw_n hK 7 380 (.iload 5) 2 rfl) (aw_n hK 8 382 (.iconst 2) 1 rfl) (aw_n hK 9 383 (.iadd) 1 rfl) (aw_n hK 10 384 (.iaload) 1 rfl) ⟨by omega, hL.2⟩ ?_
  refine aw_s 386 (al i o6 o7 o8) (List.map az_e [az_r 43, az_i (xs (i + 2)).toInt, az_i (xs (i + 1)).toInt, az_r 0]) (aw_n hK 11 385 (.aload_n 3) 1 rfl) rfl ?_
  refine aw_w (d := 13) (N1 := 1) (N2 := N) 389 (st := [az_r 43, az_i (xs (i + 2)).toInt, az_i (xs (i + 1)).toInt, az_r 0]) (aw_n hK 12 386 (.invokestatic 163) 3 rfl) rfl rfl (by omega) (wl_goat (zc_goat H hh aw_x aw_x)) (fun v t gl2 gd2 q => ?_) (fun E t gl2 gd2 q => by obtain ⟨_, k, _, w, _⟩ := q; cases w)
  obtain ⟨rfl, k, hk, e, q⟩ := q
  cases e
  refine aw_s 391 (al i (some (az_e (az_i ((k : Nat) : Int)))) o7 o8) [] (aw_n hK 13 389 (.istore 6) 2 rfl) rfl ?_
  refine aw_s 392 (al i (some (az_e (az_i ((k : Nat) : Int)))) o7 o8) (List.map az_e [az_r 34]) (aw_n hK 14 391 (.aload_n 2) 1 rfl) rfl ?_
  refine aw_ai (p := 392) (j := 1) (aw_n hK 15 392 (.aload_n 0) 1 rfl) (aw_n hK 16 393 (.iload 5) 2 rfl) (aw_n hK 17 395 (.iconst 1) 1 rfl) (aw_n hK 18 396 (.iadd) 1 rfl) (aw_n hK 19 397 (.iaload) 1 rfl) ⟨by omega, hL.2⟩ ?_
  refine aw_ai (p := 398) (j := 2) (aw_n hK 20 398 (.aload_n 0) 1 rfl) (aw_n hK 21 399 (.iload 5) 2 rfl) (aw_n hK 22 401 (.iconst 2) 1 rfl) (aw_n hK 23 402 (.iadd) 1 rfl) (aw_n hK 24 403 (.iaload) 1 rfl) ⟨by omega, hL.2⟩ ?_
  refine aw_c (d := 13) 407 (st := [az_i (xs (i + 2)).toInt, az_i (xs (i + 1)).toInt, az_r 34]) (aw_n hK 25 404 (.invokevirtual 166) 3 rfl) rfl rfl (az_deep q (by decide)) (fun v t2 w => ?_) (fun E t2 w => by obtain ⟨_, _, _, w, _⟩ := w; cases w)
  obtain ⟨w1, w2, v2, w3, w4⟩ := w
  cases w3
  exact aw_tail (p := 407) (off := 2310) (by decide +kernel) (by decide) hk w2 w4 (fun o7 => K _ _ _ _ _ _ w1)
theorem lc_post {L : Nat} {xs : Nat → Int32} {s : az_S} {gl : Nat → Nat → Int64} {gd : Nat → Nat → UInt64} {N : Nat} {Q : Option Value ⊕ Nat → az_S → (Nat → Nat → Int64) → (Nat → Nat → UInt64) → Prop} {i : Nat} {o6 o7 o8 : Option Value} {h : Nat} (H : zyS s h) (hh : h + 10 ≤ 10000) (hL : i + 5 ≤ L ∧ L < 2147483648) (K : ∀ t gl2 gd2 o6 o7 o8, zyS t (h + 10) → aw_R L xs 14 am_m_L_law 2747 (al i o6 o7 o8) [] t gl2 gd2 N Q) : aw_R L xs 14 am_m_L_law 440 (al i o6 o7 o8) [] s gl gd (N + 1) Q := by
  have hK : ∀ q, q ∈ ([(440, .aload_n 1, 1), (441, .aload_n 0, 1), (442, .iload 5, 2), (444, .iconst 1, 1), (445, .iadd, 1), (446, .iaload, 1), (447, .aload_n 0, 1), (448, .iload 5, 2), (450, .iconst 2, 1), (451, .iadd, 1), (452, .iaload, 1), (453, .aload_n 3, 1), (454, .invokestatic 167, 3), (457, .istore 6, 2), (459, .aload_n 2, 1), (460, .aload_n 0, 1), (461, .iload 5, 2), (463, .iconst 1, 1), (464, .iadd, 1), (465, .iaload, 1), (466, .aload_n 0, 1), (467, .iload 5, 2), (469, .iconst 2, 1), (470, .iadd, 1), (471, .iaload, 1), (472, .invokevirtual 169, 3)] : List (Nat × Instr × Nat)) → am_find q.1 am_c_L_law = some q.2 := by decide +kernel
  refine aw_s 441 (al i o6 o7 o8) (List.map az_e [az_r 0]) (aw_n hK 0 440 (.aload_n 1) 1 rfl) rfl ?_
  refine aw_ai (p := 441) (j := 1) (aw_n hK 1 441 (.aload_n 0) 1 rfl) (aw_n hK 2 442 (.iload 5) 2 rfl) (aw_n hK 3 444 (.iconst 1) 1 rfl) (aw_n hK 4 445 (.iadd) 1 rfl) (aw_n hK 5 446 (.iaload) 1 rfl) ⟨by omega, hL.2⟩ ?_
  refine aw_ai (p := 447) (j := 2) (aw_n hK 6 447 (.aload_n 0) 1 rfl) (aw_n hK 7 448 (.iload 5) 2 rfl) (aw_n hK 8 450 (.iconst 2) 1 rfl) (aw_n hK 9 451 (.iadd) 1 rfl) (aw_n hK 10 452 (.iaload) 1 rfl) ⟨by omega, hL.2⟩ ?_
  refine aw_s 454 (al i o6 o7 o8) (List.map az_e [az_r 43, az_i (xs (i + 2)).toInt, az_i (xs (i + 1)).toInt, az_r 0]) (aw_n hK 11 453 (.aload_n 3) 1 rfl) rfl ?_
  refine aw_w (d := 13) (N1 := 1) (N2 := N) 457 (st := [az_r 43, az_i (xs (i + 2)).toInt, az_i (xs (i + 1)).toInt, az_r 0]) (aw_n hK 12 454 (.invokestatic 167) 3 rfl) rfl rfl (by omega) (wl_post (zc_post H hh aw_x aw_x)) (fun v t gl2 gd2 q => ?_) (fun E t gl2 gd2 q => by obtain ⟨_, k, _, w, _⟩ := q; cases w)
  obtain ⟨rfl, k, hk, e, q⟩ := q
  cases e
  refine aw_s 459 (al i (some (az_e (az_i ((k : Nat) : Int)))) o7 o8) [] (aw_n hK 13 457 (.istore 6) 2 rfl) rfl ?_
  refine aw_s 460 (al i (some (az_e (az_i ((k : Nat) : Int)))) o7 o8) (List.map az_e [az_r 34]) (aw_n hK 14 459 (.aload_n 2) 1 rfl) rfl ?_
  refine aw_ai (p := 460) (j := 1) (aw_n hK 15 460 (.aload_n 0) 1 rfl) (aw_n hK 16 461 (.iload 5) 2 rfl) (aw_n hK 17 463 (.iconst 1) 1 rfl) (aw_n hK 18 464 (.iadd) 1 rfl) (aw_n hK 19 465 (.iaload) 1 rfl) ⟨by omega, hL.2⟩ ?_
  refine aw_ai (p := 466) (j := 2) (aw_n hK 20 466 (.aload_n 0) 1 rfl) (aw_n hK 21 467 (.iload 5) 2 rfl) (aw_n hK 22 469 (.iconst 2) 1 rfl) (aw_n hK 23 470 (.iadd) 1 rfl) (aw_n hK 24 471 (.iaload) 1 rfl) ⟨by omega, hL.2⟩ ?_
  refine aw_c (d := 13) 475 (st := [az_i (xs (i + 2)).toInt, az_i (xs (i + 1)).toInt, az_r 34]) (aw_n hK 25 472 (.invokevirtual 169) 3 rfl) rfl rfl (az_deep q (by decide)) (fun v t2 w => ?_) (fun E t2 w => by obtain ⟨_, _, _, w, _⟩ := w; cases w)
  obtain ⟨w1, w2, v2, w3, w4⟩ := w
  cases w3
  exact aw_tail (p := 475) (off := 2242) (by decide +kernel) (by decide) hk w2 w4 (fun o7 => K _ _ _ _ _ _ w1)
theorem lc_leave {L : Nat} {xs : Nat → Int32} {s : az_S} {gl : Nat → Nat → Int64} {gd : Nat → Nat → UInt64} {N : Nat} {Q : Option Value ⊕ Nat → az_S → (Nat → Nat → Int64) → (Nat → Nat → UInt64) → Prop} {i : Nat} {o6 o7 o8 : Option Value} {h : Nat} (H : zyS s h) (hh : h + 10 ≤ 10000) (hL : i + 5 ≤ L ∧ L < 2147483648) (K : ∀ t gl2 gd2 o6 o7 o8, zyS t (h + 10) → aw_R L xs 14 am_m_L_law 2747 (al i o6 o7 o8) [] t gl2 gd2 N Q) : aw_R L xs 14 am_m_L_law 508 (al i o6 o7 o8) [] s gl gd (N + 1) Q := by
  have hK : ∀ q, q ∈ ([(508, .aload_n 1, 1), (509, .aload_n 0, 1), (510, .iload 5, 2), (512, .iconst 1, 1), (513, .iadd, 1), (514, .iaload, 1), (515, .aload_n 3, 1), (516, .invokestatic 170, 3), (519, .istore 6, 2), (521, .aload_n 2, 1), (522, .aload_n 0, 1), (523, .iload 5, 2), (525, .iconst 1, 1), (526, .iadd, 1), (527, .iaload, 1), (528, .invokevirtual 173, 3)] : List (Nat × Instr × Nat)) → am_find q.1 am_c_L_law = some q.2 := by decide +kernel
  refine aw_s 509 (al i o6 o7 o8) (List.map az_e [az_r 0]) (aw_n hK 0 508 (.aload_n 1) 1 rfl) rfl ?_
  refine aw_ai (p := 509) (j := 1) (aw_n hK 1 509 (.aload_n 0) 1 rfl) (aw_n hK 2 510 (.iload 5) 2 rfl) (aw_n hK 3 512 (.iconst 1) 1 rfl) (aw_n hK 4 513 (.iadd) 1 rfl) (aw_n hK 5 514 (.iaload) 1 rfl) ⟨by omega, hL.2⟩ ?_
  refine aw_s 516 (al i o6 o7 o8) (List.map az_e [az_r 43, az_i (xs (i + 1)).toInt, az_r 0]) (aw_n hK 6 515 (.aload_n 3) 1 rfl) rfl ?_
  refine aw_w (d := 13) (N1 := 1) (N2 := N) 519 (st := [az_r 43, az_i (xs (i + 1)).toInt, az_r 0]) (aw_n hK 7 516 (.invokestatic 170) 3 rfl) rfl rfl (by omega) (wl_leave (zc_leave H hh aw_x)) (fun v t gl2 gd2 q => ?_) (fun E t gl2 gd2 q => by obtain ⟨_, k, _, w, _⟩ := q; cases w)
  obtain ⟨rfl, k, hk, e, q⟩ := q
  cases e
  refine aw_s 521 (al i (some (az_e (az_i ((k : Nat) : Int)))) o7 o8) [] (aw_n hK 8 519 (.istore 6) 2 rfl) rfl ?_
  refine aw_s 522 (al i (some (az_e (az_i ((k : Nat) : Int)))) o7 o8) (List.map az_e [az_r 34]) (aw_n hK 9 521 (.aload_n 2) 1 rfl) rfl ?_
  refine aw_ai (p := 522) (j := 1) (aw_n hK 10 522 (.aload_n 0) 1 rfl) (aw_n hK 11 523 (.iload 5) 2 rfl) (aw_n hK 12 525 (.iconst 1) 1 rfl) (aw_n hK 13 526 (.iadd) 1 rfl) (aw_n hK 14 527 (.iaload) 1 rfl) ⟨by omega, hL.2⟩ ?_
  refine aw_c (d := 13) 531 (st := [az_i (xs (i + 1)).toInt, az_r 34]) (aw_n hK 15 528 (.invokevirtual 173) 3 rfl) rfl rfl (az_deep q (by decide)) (fun v t2 w => ?_) (fun E t2 w => by obtain ⟨_, _, _, w, _⟩ := w; cases w)
  obtain ⟨w1, w2, v2, w3, w4⟩ := w
  cases w3
  exact aw_tail (p := 531) (off := 2186) (by decide +kernel) (by decide) hk w2 w4 (fun o7 => K _ _ _ _ _ _ w1)
theorem lc_riddle {L : Nat} {xs : Nat → Int32} {s : az_S} {gl : Nat → Nat → Int64} {gd : Nat → Nat → UInt64} {N : Nat} {Q : Option Value ⊕ Nat → az_S → (Nat → Nat → Int64) → (Nat → Nat → UInt64) → Prop} {i : Nat} {o6 o7 o8 : Option Value} {h : Nat} (H : zyS s h) (hh : h + 10 ≤ 10000) (hL : i + 5 ≤ L ∧ L < 2147483648) (K : ∀ t gl2 gd2 o6 o7 o8, zyS t (h + 10) → aw_R L xs 14 am_m_L_law 2747 (al i o6 o7 o8) [] t gl2 gd2 N Q) : aw_R L xs 14 am_m_L_law 564 (al i o6 o7 o8) [] s gl gd (N + 1) Q := by
  have hK : ∀ q, q ∈ ([(564, .aload_n 1, 1), (565, .aload_n 0, 1), (566, .iload 5, 2), (568, .iconst 1, 1), (569, .iadd, 1), (570, .iaload, 1), (571, .aload_n 0, 1), (572, .iload 5, 2), (574, .iconst 2, 1), (575, .iadd, 1), (576, .iaload, 1), (577, .aload_n 0, 1), (578, .iload 5, 2), (580, .iconst 3, 1), (581, .iadd, 1), (582, .iaload, 1), (583, .aload_n 3, 1), (584, .invokestatic 174, 3), (587, .istore 6, 2), (589, .aload_n 2, 1), (590, .aload_n 0, 1), (591, .iload 5, 2), (593, .iconst 1, 1), (594, .iadd, 1), (595, .iaload, 1), (596, .aload_n 0, 1), (597, .iload 5, 2), (599, .iconst 2, 1), (600, .iadd, 1), (601, .iaload, 1), (602, .aload_n 0, 1), (603, .iload 5, 2), (605, .iconst 3, 1), (606, .iadd, 1), (607, .iaload, 1), (608, .invokevirtual 177, 3)] : List (Nat × Instr × Nat)) → am_find q.1 am_c_L_law = some q.2 := by decide +kernel
  refine aw_s 565 (al i o6 o7 o8) (List.map az_e [az_r 0]) (aw_n hK 0 564 (.aload_n 1) 1 rfl) rfl ?_
  refine aw_ai (p := 565) (j := 1) (aw_n hK 1 565 (.aload_n 0) 1 rfl) (aw_n hK 2 566 (.iload 5) 2 rfl) (aw_n hK 3 568 (.iconst 1) 1 rfl) (aw_n hK 4 569 (.iadd) 1 rfl) (aw_n hK 5 570 (.iaload) 1 rfl) ⟨by omega, hL.2⟩ ?_
  refine aw_ai (p := 571) (j := 2) (aw_n hK 6 571 (.aload_n 0) 1 rfl) (aw_n hK 7 572 (.iload 5) 2 rfl) (aw_n hK 8 574 (.iconst 2) 1 rfl) (aw_n hK 9 575 (.iadd) 1 rfl) (aw_n hK 10 576 (.iaload) 1 rfl) ⟨by omega, hL.2⟩ ?_
  refine aw_ai (p := 577) (j := 3) (aw_n hK 11 577 (.aload_n 0) 1 rfl) (aw_n hK 12 578 (.iload 5) 2 rfl) (aw_n hK 13 580 (.iconst 3) 1 rfl) (aw_n hK 14 581 (.iadd) 1 rfl) (aw_n hK 15 582 (.iaload) 1 rfl) ⟨by omega, hL.2⟩ ?_
  refine aw_s 584 (al i o6 o7 o8) (List.map az_e [az_r 43, az_i (xs (i + 3)).toInt, az_i (xs (i + 2)).toInt, az_i (xs (i + 1)).toInt, az_r 0]) (aw_n hK 16 583 (.aload_n 3) 1 rfl) rfl ?_
  refine aw_w (d := 13) (N1 := 1) (N2 := N) 587 (st := [az_r 43, az_i (xs (i + 3)).toInt, az_i (xs (i + 2)).toInt, az_i (xs (i + 1)).toInt, az_r 0]) (aw_n hK 17 584 (.invokestatic 174) 3 rfl) rfl rfl (by omega) (wl_riddle (zc_riddle H hh aw_x aw_x aw_x)) (fun v t gl2 gd2 q => ?_) (fun E t gl2 gd2 q => by obtain ⟨_, k, _, w, _⟩ := q; cases w)
  obtain ⟨rfl, k, hk, e, q⟩ := q
  cases e
  refine aw_s 589 (al i (some (az_e (az_i ((k : Nat) : Int)))) o7 o8) [] (aw_n hK 18 587 (.istore 6) 2 rfl) rfl ?_
  refine aw_s 590 (al i (some (az_e (az_i ((k : Nat) : Int)))) o7 o8) (List.map az_e [az_r 34]) (aw_n hK 19 589 (.aload_n 2) 1 rfl) rfl ?_
  refine aw_ai (p := 590) (j := 1) (aw_n hK 20 590 (.aload_n 0) 1 rfl) (aw_n hK 21 591 (.iload 5) 2 rfl) (aw_n hK 22 593 (.iconst 1) 1 rfl) (aw_n hK 23 594 (.iadd) 1 rfl) (aw_n hK 24 595 (.iaload) 1 rfl) ⟨by omega, hL.2⟩ ?_
  refine aw_ai (p := 596) (j := 2) (aw_n hK 25 596 (.aload_n 0) 1 rfl) (aw_n hK 26 597 (.iload 5) 2 rfl) (aw_n hK 27 599 (.iconst 2) 1 rfl) (aw_n hK 28 600 (.iadd) 1 rfl) (aw_n hK 29 601 (.iaload) 1 rfl) ⟨by omega, hL.2⟩ ?_
  refine aw_ai (p := 602) (j := 3) (aw_n hK 30 602 (.aload_n 0) 1 rfl) (aw_n hK 31 603 (.iload 5) 2 rfl) (aw_n hK 32 605 (.iconst 3) 1 rfl) (aw_n hK 33 606 (.iadd) 1 rfl) (aw_n hK 34 607 (.iaload) 1 rfl) ⟨by omega, hL.2⟩ ?_
  refine aw_c (d := 13) 611 (st := [az_i (xs (i + 3)).toInt, az_i (xs (i + 2)).toInt, az_i (xs (i + 1)).toInt, az_r 34]) (aw_n hK 35 608 (.invokevirtual 177) 3 rfl) rfl rfl (az_deep q (by decide)) (fun v t2 w => ?_) (fun E t2 w => by obtain ⟨_, _, _, w, _⟩ := w; cases w)
  obtain ⟨w1, w2, v2, w3, w4⟩ := w
  cases w3
  exact aw_tail (p := 611) (off := 2106) (by decide +kernel) (by decide) hk w2 w4 (fun o7 => K _ _ _ _ _ _ w1)
theorem lc_fog {L : Nat} {xs : Nat → Int32} {s : az_S} {gl : Nat → Nat → Int64} {gd : Nat → Nat → UInt64} {N : Nat} {Q : Option Value ⊕ Nat → az_S → (Nat → Nat → Int64) → (Nat → Nat → UInt64) → Prop} {i : Nat} {o6 o7 o8 : Option Value} {h : Nat} (H : zyS s h) (hh : h + 10 ≤ 10000) (hL : i + 5 ≤ L ∧ L < 2147483648) (K : ∀ t gl2 gd2 o6 o7 o8, zyS t (h + 10) → aw_R L xs 14 am_m_L_law 2747 (al i o6 o7 o8) [] t gl2 gd2 N Q) : aw_R L xs 14 am_m_L_law 644 (al i o6 o7 o8) [] s gl gd (N + 1) Q := by
  have hK : ∀ q, q ∈ ([(644, .aload_n 1, 1), (645, .aload_n 0, 1), (646, .iload 5, 2), (648, .iconst 1, 1), (649, .iadd, 1), (650, .iaload, 1), (651, .aload_n 0, 1), (652, .iload 5, 2), (654, .iconst 2, 1), (655, .iadd, 1), (656, .iaload, 1), (657, .aload_n 3, 1), (658, .invokestatic 178, 3), (661, .istore 6, 2), (663, .aload_n 2, 1), (664, .aload_n 0, 1), (665, .iload 5, 2), (667, .iconst 1, 1), (668, .iadd, 1), (669, .iaload, 1), (670, .aload_n 0, 1), (671, .iload 5, 2), (673, .iconst 2, 1), (674, .iadd, 1), (675, .iaload, 1), (676, .invokevirtual 180, 3)] : List (Nat × Instr × Nat)) → am_find q.1 am_c_L_law = some q.2 := by decide +kernel
  refine aw_s 645 (al i o6 o7 o8) (List.map az_e [az_r 0]) (aw_n hK 0 644 (.aload_n 1) 1 rfl) rfl ?_
  refine aw_ai (p := 645) (j := 1) (aw_n hK 1 645 (.aload_n 0) 1 rfl) (aw_n hK 2 646 (.iload 5) 2 rfl) (aw_n hK 3 648 (.iconst 1) 1 rfl) (aw_n hK 4 649 (.iadd) 1 rfl) (aw_n hK 5 650 (.iaload) 1 rfl) ⟨by omega, hL.2⟩ ?_
  refine aw_ai (p := 651) (j := 2) (aw_n hK 6 651 (.aload_n 0) 1 rfl) (aw_n hK 7 652 (.iload 5) 2 rfl) (aw_n hK 8 654 (.iconst 2) 1 rfl) (aw_n hK 9 655 (.iadd) 1 rfl) (aw_n hK 10 656 (.iaload) 1 rfl) ⟨by omega, hL.2⟩ ?_
  refine aw_s 658 (al i o6 o7 o8) (List.map az_e [az_r 43, az_i (xs (i + 2)).toInt, az_i (xs (i + 1)).toInt, az_r 0]) (aw_n hK 11 657 (.aload_n 3) 1 rfl) rfl ?_
  refine aw_w (d := 13) (N1 := 1) (N2 := N) 661 (st := [az_r 43, az_i (xs (i + 2)).toInt, az_i (xs (i + 1)).toInt, az_r 0]) (aw_n hK 12 658 (.invokestatic 178) 3 rfl) rfl rfl (by omega) (wl_fog (zc_fog H hh aw_x aw_x)) (fun v t gl2 gd2 q => ?_) (fun E t gl2 gd2 q => by obtain ⟨_, k, _, w, _⟩ := q; cases w)
  obtain ⟨rfl, k, hk, e, q⟩ := q
  cases e
  refine aw_s 663 (al i (some (az_e (az_i ((k : Nat) : Int)))) o7 o8) [] (aw_n hK 13 661 (.istore 6) 2 rfl) rfl ?_
  refine aw_s 664 (al i (some (az_e (az_i ((k : Nat) : Int)))) o7 o8) (List.map az_e [az_r 34]) (aw_n hK 14 663 (.aload_n 2) 1 rfl) rfl ?_
  refine aw_ai (p := 664) (j := 1) (aw_n hK 15 664 (.aload_n 0) 1 rfl) (aw_n hK 16 665 (.iload 5) 2 rfl) (aw_n hK 17 667 (.iconst 1) 1 rfl) (aw_n hK 18 668 (.iadd) 1 rfl) (aw_n hK 19 669 (.iaload) 1 rfl) ⟨by omega, hL.2⟩ ?_
  refine aw_ai (p := 670) (j := 2) (aw_n hK 20 670 (.aload_n 0) 1 rfl) (aw_n hK 21 671 (.iload 5) 2 rfl) (aw_n hK 22 673 (.iconst 2) 1 rfl) (aw_n hK 23 674 (.iadd) 1 rfl) (aw_n hK 24 675 (.iaload) 1 rfl) ⟨by omega, hL.2⟩ ?_
  refine aw_c (d := 13) 679 (st := [az_i (xs (i + 2)).toInt, az_i (xs (i + 1)).toInt, az_r 34]) (aw_n hK 25 676 (.invokevirtual 180) 3 rfl) rfl rfl (az_deep q (by decide)) (fun v t2 w => ?_) (fun E t2 w => by obtain ⟨_, _, _, w, _⟩ := w; cases w)
  obtain ⟨w1, w2, v2, w3, w4⟩ := w
  cases w3
  exact aw_tail (p := 679) (off := 2038) (by decide +kernel) (by decide) hk w2 w4 (fun o7 => K _ _ _ _ _ _ w1)
theorem lc_price {L : Nat} {xs : Nat → Int32} {s : az_S} {gl : Nat → Nat → Int64} {gd : Nat → Nat → UInt64} {N : Nat} {Q : Option Value ⊕ Nat → az_S → (Nat → Nat → Int64) → (Nat → Nat → UInt64) → Prop} {i : Nat} {o6 o7 o8 : Option Value} {h : Nat} (H : zyS s h) (hh : h + 10 ≤ 10000) (hL : i + 5 ≤ L ∧ L < 2147483648) (K : ∀ t gl2 gd2 o6 o7 o8, zyS t (h + 10) → aw_R L xs 14 am_m_L_law 2747 (al i o6 o7 o8) [] t gl2 gd2 N Q) : aw_R L xs 14 am_m_L_law 712 (al i o6 o7 o8) [] s gl gd (N + 1) Q := by
  have hK : ∀ q, q ∈ ([(712, .aload_n 1, 1), (713, .aload_n 0, 1), (714, .iload 5, 2), (716, .iconst 1, 1), (717, .iadd, 1), (718, .iaload, 1), (719, .aload_n 0, 1), (720, .iload 5, 2), (722, .iconst 2, 1), (723, .iadd, 1), (724, .iaload, 1), (725, .aload_n 3, 1), (726, .invokestatic 181, 3), (729, .istore 6, 2), (731, .aload_n 2, 1), (732, .aload_n 0, 1), (733, .iload 5, 2), (735, .iconst 1, 1), (736, .iadd, 1), (737, .iaload, 1), (738, .aload_n 0, 1), (739, .iload 5, 2), (741, .iconst 2, 1), (742, .iadd, 1), (743, .iaload, 1), (744, .invokevirtual 183, 3)] : List (Nat × Instr × Nat)) → am_find q.1 am_c_L_law = some q.2 := by decide +kernel
  refine aw_s 713 (al i o6 o7 o8) (List.map az_e [az_r 0]) (aw_n hK 0 712 (.aload_n 1) 1 rfl) rfl ?_
  refine aw_ai (p := 713) (j := 1) (aw_n hK 1 713 (.aload_n 0) 1 rfl) (aw_n hK 2 714 (.iload 5) 2 rfl) (aw_n hK 3 716 (.iconst 1) 1 rfl) (aw_n hK 4 717 (.iadd) 1 rfl) (aw_n hK 5 718 (.iaload) 1 rfl) ⟨by omega, hL.2⟩ ?_
  refine aw_ai (p := 719) (j := 2) (aw_n hK 6 719 (.aload_n 0) 1 rfl) (aw_n hK 7 720 (.iload 5) 2 rfl) (aw_n hK 8 722 (.iconst 2) 1 rfl) (aw_n hK 9 723 (.iadd) 1 rfl) (aw_n hK 10 724 (.iaload) 1 rfl) ⟨by omega, hL.2⟩ ?_
  refine aw_s 726 (al i o6 o7 o8) (List.map az_e [az_r 43, az_i (xs (i + 2)).toInt, az_i (xs (i + 1)).toInt, az_r 0]) (aw_n hK 11 725 (.aload_n 3) 1 rfl) rfl ?_
  refine aw_w (d := 13) (N1 := 1) (N2 := N) 729 (st := [az_r 43, az_i (xs (i + 2)).toInt, az_i (xs (i + 1)).toInt, az_r 0]) (aw_n hK 12 726 (.invokestatic 181) 3 rfl) rfl rfl (by omega) (wl_price (zc_price H hh aw_x aw_x)) (fun v t gl2 gd2 q => ?_) (fun E t gl2 gd2 q => by obtain ⟨_, k, _, w, _⟩ := q; cases w)
  obtain ⟨rfl, k, hk, e, q⟩ := q
  cases e
  refine aw_s 731 (al i (some (az_e (az_i ((k : Nat) : Int)))) o7 o8) [] (aw_n hK 13 729 (.istore 6) 2 rfl) rfl ?_
  refine aw_s 732 (al i (some (az_e (az_i ((k : Nat) : Int)))) o7 o8) (List.map az_e [az_r 34]) (aw_n hK 14 731 (.aload_n 2) 1 rfl) rfl ?_
  refine aw_ai (p := 732) (j := 1) (aw_n hK 15 732 (.aload_n 0) 1 rfl) (aw_n hK 16 733 (.iload 5) 2 rfl) (aw_n hK 17 735 (.iconst 1) 1 rfl) (aw_n hK 18 736 (.iadd) 1 rfl) (aw_n hK 19 737 (.iaload) 1 rfl) ⟨by omega, hL.2⟩ ?_
  refine aw_ai (p := 738) (j := 2) (aw_n hK 20 738 (.aload_n 0) 1 rfl) (aw_n hK 21 739 (.iload 5) 2 rfl) (aw_n hK 22 741 (.iconst 2) 1 rfl) (aw_n hK 23 742 (.iadd) 1 rfl) (aw_n hK 24 743 (.iaload) 1 rfl) ⟨by omega, hL.2⟩ ?_
  refine aw_c (d := 13) 747 (st := [az_i (xs (i + 2)).toInt, az_i (xs (i + 1)).toInt, az_r 34]) (aw_n hK 25 744 (.invokevirtual 183) 3 rfl) rfl rfl (az_deep q (by decide)) (fun v t2 w => ?_) (fun E t2 w => by obtain ⟨_, _, _, w, _⟩ := w; cases w)
  obtain ⟨w1, w2, v2, w3, w4⟩ := w
  cases w3
  exact aw_tail (p := 747) (off := 1970) (by decide +kernel) (by decide) hk w2 w4 (fun o7 => K _ _ _ _ _ _ w1)
theorem lc_cross {L : Nat} {xs : Nat → Int32} {s : az_S} {gl : Nat → Nat → Int64} {gd : Nat → Nat → UInt64} {N : Nat} {Q : Option Value ⊕ Nat → az_S → (Nat → Nat → Int64) → (Nat → Nat → UInt64) → Prop} {i : Nat} {o6 o7 o8 : Option Value} {h : Nat} (H : zyS s h) (hh : h + 10 ≤ 10000) (hL : i + 5 ≤ L ∧ L < 2147483648) (K : ∀ t gl2 gd2 o6 o7 o8, zyS t (h + 10) → aw_R L xs 14 am_m_L_law 2747 (al i o6 o7 o8) [] t gl2 gd2 N Q) : aw_R L xs 14 am_m_L_law 780 (al i o6 o7 o8) [] s gl gd (N + 1) Q := by
  have hK : ∀ q, q ∈ ([(780, .aload_n 1, 1), (781, .aload_n 0, 1), (782, .iload 5, 2), (784, .iconst 1, 1), (785, .iadd, 1), (786, .iaload, 1), (787, .aload_n 0, 1), (788, .iload 5, 2), (790, .iconst 2, 1), (791, .iadd, 1), (792, .iaload, 1), (793, .aload_n 3, 1), (794, .invokestatic 184, 3), (797, .istore 6, 2), (799, .aload_n 2, 1), (800, .aload_n 0, 1), (801, .iload 5, 2), (803, .iconst 1, 1), (804, .iadd, 1), (805, .iaload, 1), (806, .aload_n 0, 1), (807, .iload 5, 2), (809, .iconst 2, 1), (810, .iadd, 1), (811, .iaload, 1), (812, .invokevirtual 186, 3)] : List (Nat × Instr × Nat)) → am_find q.1 am_c_L_law = some q.2 := by decide +kernel
  refine aw_s 781 (al i o6 o7 o8) (List.map az_e [az_r 0]) (aw_n hK 0 780 (.aload_n 1) 1 rfl) rfl ?_
  refine aw_ai (p := 781) (j := 1) (aw_n hK 1 781 (.aload_n 0) 1 rfl) (aw_n hK 2 782 (.iload 5) 2 rfl) (aw_n hK 3 784 (.iconst 1) 1 rfl) (aw_n hK 4 785 (.iadd) 1 rfl) (aw_n hK 5 786 (.iaload) 1 rfl) ⟨by omega, hL.2⟩ ?_
  refine aw_ai (p := 787) (j := 2) (aw_n hK 6 787 (.aload_n 0) 1 rfl) (aw_n hK 7 788 (.iload 5) 2 rfl) (aw_n hK 8 790 (.iconst 2) 1 rfl) (aw_n hK 9 791 (.iadd) 1 rfl) (aw_n hK 10 792 (.iaload) 1 rfl) ⟨by omega, hL.2⟩ ?_
  refine aw_s 794 (al i o6 o7 o8) (List.map az_e [az_r 43, az_i (xs (i + 2)).toInt, az_i (xs (i + 1)).toInt, az_r 0]) (aw_n hK 11 793 (.aload_n 3) 1 rfl) rfl ?_
  refine aw_w (d := 13) (N1 := 1) (N2 := N) 797 (st := [az_r 43, az_i (xs (i + 2)).toInt, az_i (xs (i + 1)).toInt, az_r 0]) (aw_n hK 12 794 (.invokestatic 184) 3 rfl) rfl rfl (by omega) (wl_cross (zc_cross H hh aw_x aw_x)) (fun v t gl2 gd2 q => ?_) (fun E t gl2 gd2 q => by obtain ⟨_, k, _, w, _⟩ := q; cases w)
  obtain ⟨rfl, k, hk, e, q⟩ := q
  cases e
  refine aw_s 799 (al i (some (az_e (az_i ((k : Nat) : Int)))) o7 o8) [] (aw_n hK 13 797 (.istore 6) 2 rfl) rfl ?_
  refine aw_s 800 (al i (some (az_e (az_i ((k : Nat) : Int)))) o7 o8) (List.map az_e [az_r 34]) (aw_n hK 14 799 (.aload_n 2) 1 rfl) rfl ?_
  refine aw_ai (p := 800) (j := 1) (aw_n hK 15 800 (.aload_n 0) 1 rfl) (aw_n hK 16 801 (.iload 5) 2 rfl) (aw_n hK 17 803 (.iconst 1) 1 rfl) (aw_n hK 18 804 (.iadd) 1 rfl) (aw_n hK 19 805 (.iaload) 1 rfl) ⟨by omega, hL.2⟩ ?_
  refine aw_ai (p := 806) (j := 2) (aw_n hK 20 806 (.aload_n 0) 1 rfl) (aw_n hK 21 807 (.iload 5) 2 rfl) (aw_n hK 22 809 (.iconst 2) 1 rfl) (aw_n hK 23 810 (.iadd) 1 rfl) (aw_n hK 24 811 (.iaload) 1 rfl) ⟨by omega, hL.2⟩ ?_
  refine aw_c (d := 13) 815 (st := [az_i (xs (i + 2)).toInt, az_i (xs (i + 1)).toInt, az_r 34]) (aw_n hK 25 812 (.invokevirtual 186) 3 rfl) rfl rfl (az_deep q (by decide)) (fun v t2 w => ?_) (fun E t2 w => by obtain ⟨_, _, _, w, _⟩ := w; cases w)
  obtain ⟨w1, w2, v2, w3, w4⟩ := w
  cases w3
  exact aw_tail (p := 815) (off := 1902) (by decide +kernel) (by decide) hk w2 w4 (fun o7 => K _ _ _ _ _ _ w1)
theorem lc_dispute {L : Nat} {xs : Nat → Int32} {s : az_S} {gl : Nat → Nat → Int64} {gd : Nat → Nat → UInt64} {N : Nat} {Q : Option Value ⊕ Nat → az_S → (Nat → Nat → Int64) → (Nat → Nat → UInt64) → Prop} {i : Nat} {o6 o7 o8 : Option Value} {h : Nat} (H : zyS s h) (hh : h + 10 ≤ 10000) (hL : i + 5 ≤ L ∧ L < 2147483648) (K : ∀ t gl2 gd2 o6 o7 o8, zyS t (h + 10) → aw_R L xs 14 am_m_L_law 2747 (al i o6 o7 o8) [] t gl2 gd2 N Q) : aw_R L xs 14 am_m_L_law 848 (al i o6 o7 o8) [] s gl gd (N + 1) Q := by
  have hK : ∀ q, q ∈ ([(848, .aload_n 1, 1), (849, .aload_n 0, 1), (850, .iload 5, 2), (852, .iconst 1, 1), (853, .iadd, 1), (854, .iaload, 1), (855, .aload_n 0, 1), (856, .iload 5, 2), (858, .iconst 2, 1), (859, .iadd, 1), (860, .iaload, 1), (861, .aload_n 3, 1), (862, .invokestatic 187, 3), (865, .istore 6, 2), (867, .aload_n 2, 1), (868, .aload_n 0, 1), (869, .iload 5, 2), (871, .iconst 1, 1), (872, .iadd, 1), (873, .iaload, 1), (874, .aload_n 0, 1), (875, .iload 5, 2), (877, .iconst 2, 1), (878, .iadd, 1), (879, .iaload, 1), (880, .invokevirtual 189, 3)] : List (Nat × Instr × Nat)) → am_find q.1 am_c_L_law = some q.2 := by decide +kernel
  refine aw_s 849 (al i o6 o7 o8) (List.map az_e [az_r 0]) (aw_n hK 0 848 (.aload_n 1) 1 rfl) rfl ?_
  refine aw_ai (p := 849) (j := 1) (aw_n hK 1 849 (.aload_n 0) 1 rfl) (aw_n hK 2 850 (.iload 5) 2 rfl) (aw_n hK 3 852 (.iconst 1) 1 rfl) (aw_n hK 4 853 (.iadd) 1 rfl) (aw_n hK 5 854 (.iaload) 1 rfl) ⟨by omega, hL.2⟩ ?_
  refine aw_ai (p := 855) (j := 2) (aw_n hK 6 855 (.aload_n 0) 1 rfl) (aw_n hK 7 856 (.iload 5) 2 rfl) (aw_n hK 8 858 (.iconst 2) 1 rfl) (aw_n hK 9 859 (.iadd) 1 rfl) (aw_n hK 10 860 (.iaload) 1 rfl) ⟨by omega, hL.2⟩ ?_
  refine aw_s 862 (al i o6 o7 o8) (List.map az_e [az_r 43, az_i (xs (i + 2)).toInt, az_i (xs (i + 1)).toInt, az_r 0]) (aw_n hK 11 861 (.aload_n 3) 1 rfl) rfl ?_
  refine aw_w (d := 13) (N1 := 1) (N2 := N) 865 (st := [az_r 43, az_i (xs (i + 2)).toInt, az_i (xs (i + 1)).toInt, az_r 0]) (aw_n hK 12 862 (.invokestatic 187) 3 rfl) rfl rfl (by omega) (wl_dispute (zc_dispute H hh aw_x aw_x)) (fun v t gl2 gd2 q => ?_) (fun E t gl2 gd2 q => by obtain ⟨_, k, _, w, _⟩ := q; cases w)
  obtain ⟨rfl, k, hk, e, q⟩ := q
  cases e
  refine aw_s 867 (al i (some (az_e (az_i ((k : Nat) : Int)))) o7 o8) [] (aw_n hK 13 865 (.istore 6) 2 rfl) rfl ?_
  refine aw_s 868 (al i (some (az_e (az_i ((k : Nat) : Int)))) o7 o8) (List.map az_e [az_r 34]) (aw_n hK 14 867 (.aload_n 2) 1 rfl) rfl ?_
  refine aw_ai (p := 868) (j := 1) (aw_n hK 15 868 (.aload_n 0) 1 rfl) (aw_n hK 16 869 (.iload 5) 2 rfl) (aw_n hK 17 871 (.iconst 1) 1 rfl) (aw_n hK 18 872 (.iadd) 1 rfl) (aw_n hK 19 873 (.iaload) 1 rfl) ⟨by omega, hL.2⟩ ?_
  refine aw_ai (p := 874) (j := 2) (aw_n hK 20 874 (.aload_n 0) 1 rfl) (aw_n hK 21 875 (.iload 5) 2 rfl) (aw_n hK 22 877 (.iconst 2) 1 rfl) (aw_n hK 23 878 (.iadd) 1 rfl) (aw_n hK 24 879 (.iaload) 1 rfl) ⟨by omega, hL.2⟩ ?_
  refine aw_c (d := 13) 883 (st := [az_i (xs (i + 2)).toInt, az_i (xs (i + 1)).toInt, az_r 34]) (aw_n hK 25 880 (.invokevirtual 189) 3 rfl) rfl rfl (az_deep q (by decide)) (fun v t2 w => ?_) (fun E t2 w => by obtain ⟨_, _, _, w, _⟩ := w; cases w)
  obtain ⟨w1, w2, v2, w3, w4⟩ := w
  cases w3
  exact aw_tail (p := 883) (off := 1834) (by decide +kernel) (by decide) hk w2 w4 (fun o7 => K _ _ _ _ _ _ w1)
theorem lc_settle {L : Nat} {xs : Nat → Int32} {s : az_S} {gl : Nat → Nat → Int64} {gd : Nat → Nat → UInt64} {N : Nat} {Q : Option Value ⊕ Nat → az_S → (Nat → Nat → Int64) → (Nat → Nat → UInt64) → Prop} {i : Nat} {o6 o7 o8 : Option Value} {h : Nat} (H : zyS s h) (hh : h + 10 ≤ 10000) (hL : i + 5 ≤ L ∧ L < 2147483648) (K : ∀ t gl2 gd2 o6 o7 o8, zyS t (h + 10) → aw_R L xs 14 am_m_L_law 2747 (al i o6 o7 o8) [] t gl2 gd2 N Q) : aw_R L xs 14 am_m_L_law 916 (al i o6 o7 o8) [] s gl gd (N + 1) Q := by
  have hK : ∀ q, q ∈ ([(916, .aload_n 1, 1), (917, .aload_n 0, 1), (918, .iload 5, 2), (920, .iconst 1, 1), (921, .iadd, 1), (922, .iaload, 1), (923, .aload_n 0, 1), (924, .iload 5, 2), (926, .iconst 2, 1), (927, .iadd, 1), (928, .iaload, 1), (929, .ifCond .eq 7, 3), (936, .iconst 0, 1), (937, .aload_n 3, 1), (938, .invokestatic 190, 3), (941, .istore 6, 2), (943, .aload_n 2, 1), (944, .aload_n 0, 1), (945, .iload 5, 2), (947, .iconst 1, 1), (948, .iadd, 1), (949, .iaload, 1), (950, .aload_n 0, 1), (951, .iload 5, 2), (953, .iconst 2, 1), (954, .iadd, 1), (955, .iaload, 1), (956, .ifCond .eq 7, 3), (963, .iconst 0, 1), (964, .invokevirtual 193, 3), (932, .iconst 1, 1), (933, .goto 4, 3), (959, .iconst 1, 1), (960, .goto 4, 3)] : List (Nat × Instr × Nat)) → am_find q.1 am_c_L_law = some q.2 := by decide +kernel
  by_cases hx2 : (xs (i + 2)).toInt = 0
  · skip
    refine aw_s 917 (al i o6 o7 o8) (List.map az_e [az_r 0]) (aw_n hK 0 916 (.aload_n 1) 1 rfl) rfl ?_
    refine aw_ai (p := 917) (j := 1) (aw_n hK 1 917 (.aload_n 0) 1 rfl) (aw_n hK 2 918 (.iload 5) 2 rfl) (aw_n hK 3 920 (.iconst 1) 1 rfl) (aw_n hK 4 921 (.iadd) 1 rfl) (aw_n hK 5 922 (.iaload) 1 rfl) ⟨by omega, hL.2⟩ ?_
    refine aw_ai (p := 923) (j := 2) (aw_n hK 6 923 (.aload_n 0) 1 rfl) (aw_n hK 7 924 (.iload 5) 2 rfl) (aw_n hK 8 926 (.iconst 2) 1 rfl) (aw_n hK 9 927 (.iadd) 1 rfl) (aw_n hK 10 928 (.iaload) 1 rfl) ⟨by omega, hL.2⟩ ?_
    refine aw_b0 (p := 929) (aw_n hK 11 929 (.ifCond .eq 7) 3 rfl) (aw_n hK 12 936 (.iconst 0) 1 rfl) hx2 ?_
    refine aw_s 938 (al i o6 o7 o8) (List.map az_e [az_r 43, az_i 0, az_i (xs (i + 1)).toInt, az_r 0]) (aw_n hK 13 937 (.aload_n 3) 1 rfl) rfl ?_
    refine aw_w (d := 13) (N1 := 1) (N2 := N) 941 (st := [az_r 43, az_i 0, az_i (xs (i + 1)).toInt, az_r 0]) (aw_n hK 14 938 (.invokestatic 190) 3 rfl) rfl rfl (by omega) (wl_settle (zc_settle_0 H hh aw_x)) (fun v t gl2 gd2 q => ?_) (fun E t gl2 gd2 q => by obtain ⟨_, k, _, w, _⟩ := q; cases w)
    obtain ⟨rfl, k, hk, e, q⟩ := q
    cases e
    refine aw_s 943 (al i (some (az_e (az_i ((k : Nat) : Int)))) o7 o8) [] (aw_n hK 15 941 (.istore 6) 2 rfl) rfl ?_
    refine aw_s 944 (al i (some (az_e (az_i ((k : Nat) : Int)))) o7 o8) (List.map az_e [az_r 34]) (aw_n hK 16 943 (.aload_n 2) 1 rfl) rfl ?_
    refine aw_ai (p := 944) (j := 1) (aw_n hK 17 944 (.aload_n 0) 1 rfl) (aw_n hK 18 945 (.iload 5) 2 rfl) (aw_n hK 19 947 (.iconst 1) 1 rfl) (aw_n hK 20 948 (.iadd) 1 rfl) (aw_n hK 21 949 (.iaload) 1 rfl) ⟨by omega, hL.2⟩ ?_
    refine aw_ai (p := 950) (j := 2) (aw_n hK 22 950 (.aload_n 0) 1 rfl) (aw_n hK 23 951 (.iload 5) 2 rfl) (aw_n hK 24 953 (.iconst 2) 1 rfl) (aw_n hK 25 954 (.iadd) 1 rfl) (aw_n hK 26 955 (.iaload) 1 rfl) ⟨by omega, hL.2⟩ ?_
    refine aw_b0 (p := 956) (aw_n hK 27 956 (.ifCond .eq 7) 3 rfl) (aw_n hK 28 963 (.iconst 0) 1 rfl) hx2 ?_
    refine aw_c (d := 13) 967 (st := [az_i 0, az_i (xs (i + 1)).toInt, az_r 34]) (aw_n hK 29 964 (.invokevirtual 193) 3 rfl) rfl rfl (az_deep q (by decide)) (fun v t2 w => ?_) (fun E t2 w => by obtain ⟨_, _, _, w, _⟩ := w; cases w)
    obtain ⟨w1, w2, v2, w3, w4⟩ := w
    cases w3
    exact aw_tail (p := 967) (off := 1750) (by decide +kernel) (by decide) hk w2 w4 (fun o7 => K _ _ _ _ _ _ w1)
  · skip
    refine aw_s 917 (al i o6 o7 o8) (List.map az_e [az_r 0]) (aw_n hK 0 916 (.aload_n 1) 1 rfl) rfl ?_
    refine aw_ai (p := 917) (j := 1) (aw_n hK 1 917 (.aload_n 0) 1 rfl) (aw_n hK 2 918 (.iload 5) 2 rfl) (aw_n hK 3 920 (.iconst 1) 1 rfl) (aw_n hK 4 921 (.iadd) 1 rfl) (aw_n hK 5 922 (.iaload) 1 rfl) ⟨by omega, hL.2⟩ ?_
    refine aw_ai (p := 923) (j := 2) (aw_n hK 6 923 (.aload_n 0) 1 rfl) (aw_n hK 7 924 (.iload 5) 2 rfl) (aw_n hK 8 926 (.iconst 2) 1 rfl) (aw_n hK 9 927 (.iadd) 1 rfl) (aw_n hK 10 928 (.iaload) 1 rfl) ⟨by omega, hL.2⟩ ?_
    refine aw_b1 (p := 929) (aw_n hK 11 929 (.ifCond .eq 7) 3 rfl) (aw_n hK 30 932 (.iconst 1) 1 rfl) (aw_n hK 31 933 (.goto 4) 3 rfl) ⟨aw_x, hx2⟩ ?_
    refine aw_s 938 (al i o6 o7 o8) (List.map az_e [az_r 43, az_i 1, az_i (xs (i + 1)).toInt, az_r 0]) (aw_n hK 13 937 (.aload_n 3) 1 rfl) rfl ?_
    refine aw_w (d := 13) (N1 := 1) (N2 := N) 941 (st := [az_r 43, az_i 1, az_i (xs (i + 1)).toInt, az_r 0]) (aw_n hK 14 938 (.invokestatic 190) 3 rfl) rfl rfl (by omega) (wl_settle (zc_settle_1 H hh aw_x)) (fun v t gl2 gd2 q => ?_) (fun E t gl2 gd2 q => by obtain ⟨_, k, _, w, _⟩ := q; cases w)
    obtain ⟨rfl, k, hk, e, q⟩ := q
    cases e
    refine aw_s 943 (al i (some (az_e (az_i ((k : Nat) : Int)))) o7 o8) [] (aw_n hK 15 941 (.istore 6) 2 rfl) rfl ?_
    refine aw_s 944 (al i (some (az_e (az_i ((k : Nat) : Int)))) o7 o8) (List.map az_e [az_r 34]) (aw_n hK 16 943 (.aload_n 2) 1 rfl) rfl ?_
    refine aw_ai (p := 944) (j := 1) (aw_n hK 17 944 (.aload_n 0) 1 rfl) (aw_n hK 18 945 (.iload 5) 2 rfl) (aw_n hK 19 947 (.iconst 1) 1 rfl) (aw_n hK 20 948 (.iadd) 1 rfl) (aw_n hK 21 949 (.iaload) 1 rfl) ⟨by omega, hL.2⟩ ?_
    refine aw_ai (p := 950) (j := 2) (aw_n hK 22 950 (.aload_n 0) 1 rfl) (aw_n hK 23 951 (.iload 5) 2 rfl) (aw_n hK 24 953 (.iconst 2) 1 rfl) (aw_n hK 25 954 (.iadd) 1 rfl) (aw_n hK 26 955 (.iaload) 1 rfl) ⟨by omega, hL.2⟩ ?_
    refine aw_b1 (p := 956) (aw_n hK 27 956 (.ifCond .eq 7) 3 rfl) (aw_n hK 32 959 (.iconst 1) 1 rfl) (aw_n hK 33 960 (.goto 4) 3 rfl) ⟨aw_x, hx2⟩ ?_
    refine aw_c (d := 13) 967 (st := [az_i 1, az_i (xs (i + 1)).toInt, az_r 34]) (aw_n hK 29 964 (.invokevirtual 193) 3 rfl) rfl rfl (az_deep q (by decide)) (fun v t2 w => ?_) (fun E t2 w => by obtain ⟨_, _, _, w, _⟩ := w; cases w)
    obtain ⟨w1, w2, v2, w3, w4⟩ := w
    cases w3
    exact aw_tail (p := 967) (off := 1750) (by decide +kernel) (by decide) hk w2 w4 (fun o7 => K _ _ _ _ _ _ w1)
theorem lc_strike {L : Nat} {xs : Nat → Int32} {s : az_S} {gl : Nat → Nat → Int64} {gd : Nat → Nat → UInt64} {N : Nat} {Q : Option Value ⊕ Nat → az_S → (Nat → Nat → Int64) → (Nat → Nat → UInt64) → Prop} {i : Nat} {o6 o7 o8 : Option Value} {h : Nat} (H : zyS s h) (hh : h + 10 ≤ 10000) (hL : i + 5 ≤ L ∧ L < 2147483648) (K : ∀ t gl2 gd2 o6 o7 o8, zyS t (h + 10) → aw_R L xs 14 am_m_L_law 2747 (al i o6 o7 o8) [] t gl2 gd2 N Q) : aw_R L xs 14 am_m_L_law 1000 (al i o6 o7 o8) [] s gl gd (N + 1) Q := by
  have hK : ∀ q, q ∈ ([(1000, .aload_n 1, 1), (1001, .aload_n 0, 1), (1002, .iload 5, 2), (1004, .iconst 1, 1), (1005, .iadd, 1), (1006, .iaload, 1), (1007, .aload_n 0, 1), (1008, .iload 5, 2), (1010, .iconst 2, 1), (1011, .iadd, 1), (1012, .iaload, 1), (1013, .ifCond .eq 7, 3), (1020, .iconst 0, 1), (1021, .aload_n 3, 1), (1022, .invokestatic 194, 3), (1025, .istore 6, 2), (1027, .aload_n 2, 1), (1028, .aload_n 0, 1), (1029, .iload 5, 2), (1031, .iconst 1, 1), (1032, .iadd, 1), (1033, .iaload, 1), (1034, .aload_n 0, 1), (1035, .iload 5, 2), (1037, .iconst 2, 1), (1038, .iadd, 1), (1039, .iaload, 1), (1040, .ifCond .eq 7, 3), (1047, .iconst 0, 1), (1048, .invokevirtual 196, 3), (1016, .iconst 1, 1), (1017, .goto 4, 3), (1043, .iconst 1, 1), (1044, .goto 4, 3)] : List (Nat × Instr × Nat)) → am_find q.1 am_c_L_law = some q.2 := by decide +kernel
  by_cases hx2 : (xs (i + 2)).toInt = 0
  · skip
    refine aw_s 1001 (al i o6 o7 o8) (List.map az_e [az_r 0]) (aw_n hK 0 1000 (.aload_n 1) 1 rfl) rfl ?_
    refine aw_ai (p := 1001) (j := 1) (aw_n hK 1 1001 (.aload_n 0) 1 rfl) (aw_n hK 2 1002 (.iload 5) 2 rfl) (aw_n hK 3 1004 (.iconst 1) 1 rfl) (aw_n hK 4 1005 (.iadd) 1 rfl) (aw_n hK 5 1006 (.iaload) 1 rfl) ⟨by omega, hL.2⟩ ?_
    refine aw_ai (p := 1007) (j := 2) (aw_n hK 6 1007 (.aload_n 0) 1 rfl) (aw_n hK 7 1008 (.iload 5) 2 rfl) (aw_n hK 8 1010 (.iconst 2) 1 rfl) (aw_n hK 9 1011 (.iadd) 1 rfl) (aw_n hK 10 1012 (.iaload) 1 rfl) ⟨by omega, hL.2⟩ ?_
    refine aw_b0 (p := 1013) (aw_n hK 11 1013 (.ifCond .eq 7) 3 rfl) (aw_n hK 12 1020 (.iconst 0) 1 rfl) hx2 ?_
    refine aw_s 1022 (al i o6 o7 o8) (List.map az_e [az_r 43, az_i 0, az_i (xs (i + 1)).toInt, az_r 0]) (aw_n hK 13 1021 (.aload_n 3) 1 rfl) rfl ?_
    refine aw_w (d := 13) (N1 := 1) (N2 := N) 1025 (st := [az_r 43, az_i 0, az_i (xs (i + 1)).toInt, az_r 0]) (aw_n hK 14 1022 (.invokestatic 194) 3 rfl) rfl rfl (by omega) (wl_strike (zc_strike_0 H hh aw_x)) (fun v t gl2 gd2 q => ?_) (fun E t gl2 gd2 q => by obtain ⟨_, k, _, w, _⟩ := q; cases w)
    obtain ⟨rfl, k, hk, e, q⟩ := q
    cases e
    refine aw_s 1027 (al i (some (az_e (az_i ((k : Nat) : Int)))) o7 o8) [] (aw_n hK 15 1025 (.istore 6) 2 rfl) rfl ?_
    refine aw_s 1028 (al i (some (az_e (az_i ((k : Nat) : Int)))) o7 o8) (List.map az_e [az_r 34]) (aw_n hK 16 1027 (.aload_n 2) 1 rfl) rfl ?_
    refine aw_ai (p := 1028) (j := 1) (aw_n hK 17 1028 (.aload_n 0) 1 rfl) (aw_n hK 18 1029 (.iload 5) 2 rfl) (aw_n hK 19 1031 (.iconst 1) 1 rfl) (aw_n hK 20 1032 (.iadd) 1 rfl) (aw_n hK 21 1033 (.iaload) 1 rfl) ⟨by omega, hL.2⟩ ?_
    refine aw_ai (p := 1034) (j := 2) (aw_n hK 22 1034 (.aload_n 0) 1 rfl) (aw_n hK 23 1035 (.iload 5) 2 rfl) (aw_n hK 24 1037 (.iconst 2) 1 rfl) (aw_n hK 25 1038 (.iadd) 1 rfl) (aw_n hK 26 1039 (.iaload) 1 rfl) ⟨by omega, hL.2⟩ ?_
    refine aw_b0 (p := 1040) (aw_n hK 27 1040 (.ifCond .eq 7) 3 rfl) (aw_n hK 28 1047 (.iconst 0) 1 rfl) hx2 ?_
    refine aw_c (d := 13) 1051 (st := [az_i 0, az_i (xs (i + 1)).toInt, az_r 34]) (aw_n hK 29 1048 (.invokevirtual 196) 3 rfl) rfl rfl (az_deep q (by decide)) (fun v t2 w => ?_) (fun E t2 w => by obtain ⟨_, _, _, w, _⟩ := w; cases w)
    obtain ⟨w1, w2, v2, w3, w4⟩ := w
    cases w3
    exact aw_tail (p := 1051) (off := 1666) (by decide +kernel) (by decide) hk w2 w4 (fun o7 => K _ _ _ _ _ _ w1)
  · skip
    refine aw_s 1001 (al i o6 o7 o8) (List.map az_e [az_r 0]) (aw_n hK 0 1000 (.aload_n 1) 1 rfl) rfl ?_
    refine aw_ai (p := 1001) (j := 1) (aw_n hK 1 1001 (.aload_n 0) 1 rfl) (aw_n hK 2 1002 (.iload 5) 2 rfl) (aw_n hK 3 1004 (.iconst 1) 1 rfl) (aw_n hK 4 1005 (.iadd) 1 rfl) (aw_n hK 5 1006 (.iaload) 1 rfl) ⟨by omega, hL.2⟩ ?_
    refine aw_ai (p := 1007) (j := 2) (aw_n hK 6 1007 (.aload_n 0) 1 rfl) (aw_n hK 7 1008 (.iload 5) 2 rfl) (aw_n hK 8 1010 (.iconst 2) 1 rfl) (aw_n hK 9 1011 (.iadd) 1 rfl) (aw_n hK 10 1012 (.iaload) 1 rfl) ⟨by omega, hL.2⟩ ?_
    refine aw_b1 (p := 1013) (aw_n hK 11 1013 (.ifCond .eq 7) 3 rfl) (aw_n hK 30 1016 (.iconst 1) 1 rfl) (aw_n hK 31 1017 (.goto 4) 3 rfl) ⟨aw_x, hx2⟩ ?_
    refine aw_s 1022 (al i o6 o7 o8) (List.map az_e [az_r 43, az_i 1, az_i (xs (i + 1)).toInt, az_r 0]) (aw_n hK 13 1021 (.aload_n 3) 1 rfl) rfl ?_
    refine aw_w (d := 13) (N1 := 1) (N2 := N) 1025 (st := [az_r 43, az_i 1, az_i (xs (i + 1)).toInt, az_r 0]) (aw_n hK 14 1022 (.invokestatic 194) 3 rfl) rfl rfl (by omega) (wl_strike (zc_strike_1 H hh aw_x)) (fun v t gl2 gd2 q => ?_) (fun E t gl2 gd2 q => by obtain ⟨_, k, _, w, _⟩ := q; cases w)
    obtain ⟨rfl, k, hk, e, q⟩ := q
    cases e
    refine aw_s 1027 (al i (some (az_e (az_i ((k : Nat) : Int)))) o7 o8) [] (aw_n hK 15 1025 (.istore 6) 2 rfl) rfl ?_
    refine aw_s 1028 (al i (some (az_e (az_i ((k : Nat) : Int)))) o7 o8) (List.map az_e [az_r 34]) (aw_n hK 16 1027 (.aload_n 2) 1 rfl) rfl ?_
    refine aw_ai (p := 1028) (j := 1) (aw_n hK 17 1028 (.aload_n 0) 1 rfl) (aw_n hK 18 1029 (.iload 5) 2 rfl) (aw_n hK 19 1031 (.iconst 1) 1 rfl) (aw_n hK 20 1032 (.iadd) 1 rfl) (aw_n hK 21 1033 (.iaload) 1 rfl) ⟨by omega, hL.2⟩ ?_
    refine aw_ai (p := 1034) (j := 2) (aw_n hK 22 1034 (.aload_n 0) 1 rfl) (aw_n hK 23 1035 (.iload 5) 2 rfl) (aw_n hK 24 1037 (.iconst 2) 1 rfl) (aw_n hK 25 1038 (.iadd) 1 rfl) (aw_n hK 26 1039 (.iaload) 1 rfl) ⟨by omega, hL.2⟩ ?_
    refine aw_b1 (p := 1040) (aw_n hK 27 1040 (.ifCond .eq 7) 3 rfl) (aw_n hK 32 1043 (.iconst 1) 1 rfl) (aw_n hK 33 1044 (.goto 4) 3 rfl) ⟨aw_x, hx2⟩ ?_
    refine aw_c (d := 13) 1051 (st := [az_i 1, az_i (xs (i + 1)).toInt, az_r 34]) (aw_n hK 29 1048 (.invokevirtual 196) 3 rfl) rfl rfl (az_deep q (by decide)) (fun v t2 w => ?_) (fun E t2 w => by obtain ⟨_, _, _, w, _⟩ := w; cases w)
    obtain ⟨w1, w2, v2, w3, w4⟩ := w
    cases w3
    exact aw_tail (p := 1051) (off := 1666) (by decide +kernel) (by decide) hk w2 w4 (fun o7 => K _ _ _ _ _ _ w1)
theorem lc_pass {L : Nat} {xs : Nat → Int32} {s : az_S} {gl : Nat → Nat → Int64} {gd : Nat → Nat → UInt64} {N : Nat} {Q : Option Value ⊕ Nat → az_S → (Nat → Nat → Int64) → (Nat → Nat → UInt64) → Prop} {i : Nat} {o6 o7 o8 : Option Value} {h : Nat} (H : zyS s h) (hh : h + 10 ≤ 10000) (hL : i + 5 ≤ L ∧ L < 2147483648) (K : ∀ t gl2 gd2 o6 o7 o8, zyS t (h + 10) → aw_R L xs 14 am_m_L_law 2747 (al i o6 o7 o8) [] t gl2 gd2 N Q) : aw_R L xs 14 am_m_L_law 1084 (al i o6 o7 o8) [] s gl gd (N + 1) Q := by
  have hK : ∀ q, q ∈ ([(1084, .aload_n 1, 1), (1085, .aload_n 0, 1), (1086, .iload 5, 2), (1088, .iconst 1, 1), (1089, .iadd, 1), (1090, .iaload, 1), (1091, .aload_n 3, 1), (1092, .invokestatic 197, 3), (1095, .istore 6, 2), (1097, .aload_n 2, 1), (1098, .aload_n 0, 1), (1099, .iload 5, 2), (1101, .iconst 1, 1), (1102, .iadd, 1), (1103, .iaload, 1), (1104, .invokevirtual 199, 3)] : List (Nat × Instr × Nat)) → am_find q.1 am_c_L_law = some q.2 := by decide +kernel
  refine aw_s 1085 (al i o6 o7 o8) (List.map az_e [az_r 0]) (aw_n hK 0 1084 (.aload_n 1) 1 rfl) rfl ?_
  refine aw_ai (p := 1085) (j := 1) (aw_n hK 1 1085 (.aload_n 0) 1 rfl) (aw_n hK 2 1086 (.iload 5) 2 rfl) (aw_n hK 3 1088 (.iconst 1) 1 rfl) (aw_n hK 4 1089 (.iadd) 1 rfl) (aw_n hK 5 1090 (.iaload) 1 rfl) ⟨by omega, hL.2⟩ ?_
  refine aw_s 1092 (al i o6 o7 o8) (List.map az_e [az_r 43, az_i (xs (i + 1)).toInt, az_r 0]) (aw_n hK 6 1091 (.aload_n 3) 1 rfl) rfl ?_
  refine aw_w (d := 13) (N1 := 1) (N2 := N) 1095 (st := [az_r 43, az_i (xs (i + 1)).toInt, az_r 0]) (aw_n hK 7 1092 (.invokestatic 197) 3 rfl) rfl rfl (by omega) (wl_pass (zc_pass H hh aw_x)) (fun v t gl2 gd2 q => ?_) (fun E t gl2 gd2 q => by obtain ⟨_, k, _, w, _⟩ := q; cases w)
  obtain ⟨rfl, k, hk, e, q⟩ := q
  cases e
  refine aw_s 1097 (al i (some (az_e (az_i ((k : Nat) : Int)))) o7 o8) [] (aw_n hK 8 1095 (.istore 6) 2 rfl) rfl ?_
  refine aw_s 1098 (al i (some (az_e (az_i ((k : Nat) : Int)))) o7 o8) (List.map az_e [az_r 34]) (aw_n hK 9 1097 (.aload_n 2) 1 rfl) rfl ?_
  refine aw_ai (p := 1098) (j := 1) (aw_n hK 10 1098 (.aload_n 0) 1 rfl) (aw_n hK 11 1099 (.iload 5) 2 rfl) (aw_n hK 12 1101 (.iconst 1) 1 rfl) (aw_n hK 13 1102 (.iadd) 1 rfl) (aw_n hK 14 1103 (.iaload) 1 rfl) ⟨by omega, hL.2⟩ ?_
  refine aw_c (d := 13) 1107 (st := [az_i (xs (i + 1)).toInt, az_r 34]) (aw_n hK 15 1104 (.invokevirtual 199) 3 rfl) rfl rfl (az_deep q (by decide)) (fun v t2 w => ?_) (fun E t2 w => by obtain ⟨_, _, _, w, _⟩ := w; cases w)
  obtain ⟨w1, w2, v2, w3, w4⟩ := w
  cases w3
  exact aw_tail (p := 1107) (off := 1610) (by decide +kernel) (by decide) hk w2 w4 (fun o7 => K _ _ _ _ _ _ w1)
theorem lc_bridgeOf {L : Nat} {xs : Nat → Int32} {s : az_S} {gl : Nat → Nat → Int64} {gd : Nat → Nat → UInt64} {N : Nat} {Q : Option Value ⊕ Nat → az_S → (Nat → Nat → Int64) → (Nat → Nat → UInt64) → Prop} {i : Nat} {o6 o7 o8 : Option Value} {h : Nat} (H : zyS s h) (hh : h + 10 ≤ 10000) (hL : i + 5 ≤ L ∧ L < 2147483648) (K : ∀ t gl2 gd2 o6 o7 o8, zyS t (h + 10) → aw_R L xs 14 am_m_L_law 2747 (al i o6 o7 o8) [] t gl2 gd2 N Q) : aw_R L xs 14 am_m_L_law 1140 (al i o6 o7 o8) [] s gl gd (N + 1) Q := by
  have hK : ∀ q, q ∈ ([(1140, .aload_n 1, 1), (1141, .aload_n 0, 1), (1142, .iload 5, 2), (1144, .iconst 1, 1), (1145, .iadd, 1), (1146, .iaload, 1), (1147, .aload_n 0, 1), (1148, .iload 5, 2), (1150, .iconst 2, 1), (1151, .iadd, 1), (1152, .iaload, 1), (1153, .aload_n 3, 1), (1154, .invokestatic 200, 3), (1157, .istore 6, 2), (1159, .aload_n 2, 1), (1160, .aload_n 0, 1), (1161, .iload 5, 2), (1163, .iconst 1, 1), (1164, .iadd, 1), (1165, .iaload, 1), (1166, .aload_n 0, 1), (1167, .iload 5, 2), (1169, .iconst 2, 1), (1170, .iadd, 1), (1171, .iaload, 1), (1172, .invokevirtual 202, 3)] : List (Nat × Instr × Nat)) → am_find q.1 am_c_L_law = some q.2 := by decide +kernel
  refine aw_s 1141 (al i o6 o7 o8) (List.map az_e [az_r 0]) (aw_n hK 0 1140 (.aload_n 1) 1 rfl) rfl ?_
  refine aw_ai (p := 1141) (j := 1) (aw_n hK 1 1141 (.aload_n 0) 1 rfl) (aw_n hK 2 1142 (.iload 5) 2 rfl) (aw_n hK 3 1144 (.iconst 1) 1 rfl) (aw_n hK 4 1145 (.iadd) 1 rfl) (aw_n hK 5 1146 (.iaload) 1 rfl) ⟨by omega, hL.2⟩ ?_
  refine aw_ai (p := 1147) (j := 2) (aw_n hK 6 1147 (.aload_n 0) 1 rfl) (aw_n hK 7 1148 (.iload 5) 2 rfl) (aw_n hK 8 1150 (.iconst 2) 1 rfl) (aw_n hK 9 1151 (.iadd) 1 rfl) (aw_n hK 10 1152 (.iaload) 1 rfl) ⟨by omega, hL.2⟩ ?_
  refine aw_s 1154 (al i o6 o7 o8) (List.map az_e [az_r 43, az_i (xs (i + 2)).toInt, az_i (xs (i + 1)).toInt, az_r 0]) (aw_n hK 11 1153 (.aload_n 3) 1 rfl) rfl ?_
  refine aw_w (d := 13) (N1 := 1) (N2 := N) 1157 (st := [az_r 43, az_i (xs (i + 2)).toInt, az_i (xs (i + 1)).toInt, az_r 0]) (aw_n hK 12 1154 (.invokestatic 200) 3 rfl) rfl rfl (by omega) (wl_bridgeOf (zc_bridgeOf H hh aw_x aw_x)) (fun v t gl2 gd2 q => ?_) (fun E t gl2 gd2 q => by obtain ⟨_, k, _, w, _⟩ := q; cases w)
  obtain ⟨rfl, k, hk, e, q⟩ := q
  cases e
  refine aw_s 1159 (al i (some (az_e (az_i ((k : Nat) : Int)))) o7 o8) [] (aw_n hK 13 1157 (.istore 6) 2 rfl) rfl ?_
  refine aw_s 1160 (al i (some (az_e (az_i ((k : Nat) : Int)))) o7 o8) (List.map az_e [az_r 34]) (aw_n hK 14 1159 (.aload_n 2) 1 rfl) rfl ?_
  refine aw_ai (p := 1160) (j := 1) (aw_n hK 15 1160 (.aload_n 0) 1 rfl) (aw_n hK 16 1161 (.iload 5) 2 rfl) (aw_n hK 17 1163 (.iconst 1) 1 rfl) (aw_n hK 18 1164 (.iadd) 1 rfl) (aw_n hK 19 1165 (.iaload) 1 rfl) ⟨by omega, hL.2⟩ ?_
  refine aw_ai (p := 1166) (j := 2) (aw_n hK 20 1166 (.aload_n 0) 1 rfl) (aw_n hK 21 1167 (.iload 5) 2 rfl) (aw_n hK 22 1169 (.iconst 2) 1 rfl) (aw_n hK 23 1170 (.iadd) 1 rfl) (aw_n hK 24 1171 (.iaload) 1 rfl) ⟨by omega, hL.2⟩ ?_
  refine aw_c (d := 13) 1175 (st := [az_i (xs (i + 2)).toInt, az_i (xs (i + 1)).toInt, az_r 34]) (aw_n hK 25 1172 (.invokevirtual 202) 3 rfl) rfl rfl (az_deep q (by decide)) (fun v t2 w => ?_) (fun E t2 w => by obtain ⟨_, _, _, w, _⟩ := w; cases w)
  obtain ⟨w1, w2, v2, w3, w4⟩ := w
  cases w3
  exact aw_tail (p := 1175) (off := 1542) (by decide +kernel) (by decide) hk w2 w4 (fun o7 => K _ _ _ _ _ _ w1)
theorem lc_trollOf {L : Nat} {xs : Nat → Int32} {s : az_S} {gl : Nat → Nat → Int64} {gd : Nat → Nat → UInt64} {N : Nat} {Q : Option Value ⊕ Nat → az_S → (Nat → Nat → Int64) → (Nat → Nat → UInt64) → Prop} {i : Nat} {o6 o7 o8 : Option Value} {h : Nat} (H : zyS s h) (hh : h + 10 ≤ 10000) (hL : i + 5 ≤ L ∧ L < 2147483648) (K : ∀ t gl2 gd2 o6 o7 o8, zyS t (h + 10) → aw_R L xs 14 am_m_L_law 2747 (al i o6 o7 o8) [] t gl2 gd2 N Q) : aw_R L xs 14 am_m_L_law 1208 (al i o6 o7 o8) [] s gl gd (N + 1) Q := by
  have hK : ∀ q, q ∈ ([(1208, .aload_n 1, 1), (1209, .aload_n 0, 1), (1210, .iload 5, 2), (1212, .iconst 1, 1), (1213, .iadd, 1), (1214, .iaload, 1), (1215, .aload_n 0, 1), (1216, .iload 5, 2), (1218, .iconst 2, 1), (1219, .iadd, 1), (1220, .iaload, 1), (1221, .aload_n 3, 1), (1222, .invokestatic 203, 3), (1225, .istore 6, 2), (1227, .aload_n 2, 1), (1228, .aload_n 0, 1), (1229, .iload 5, 2), (1231, .iconst 1, 1), (1232, .iadd, 1), (1233, .iaload, 1), (1234, .aload_n 0, 1), (1235, .iload 5, 2), (1237, .iconst 2, 1), (1238, .iadd, 1), (1239, .iaload, 1), (1240, .invokevirtual 205, 3)] : List (Nat × Instr × Nat)) → am_find q.1 am_c_L_law = some q.2 := by decide +kernel
  refine aw_s 1209 (al i o6 o7 o8) (List.map az_e [az_r 0]) (aw_n hK 0 1208 (.aload_n 1) 1 rfl) rfl ?_
  refine aw_ai (p := 1209) (j := 1) (aw_n hK 1 1209 (.aload_n 0) 1 rfl) (aw_n hK 2 1210 (.iload 5) 2 rfl) (aw_n hK 3 1212 (.iconst 1) 1 rfl) (aw_n hK 4 1213 (.iadd) 1 rfl) (aw_n hK 5 1214 (.iaload) 1 rfl) ⟨by omega, hL.2⟩ ?_
  refine aw_ai (p := 1215) (j := 2) (aw_n hK 6 1215 (.aload_n 0) 1 rfl) (aw_n hK 7 1216 (.iload 5) 2 rfl) (aw_n hK 8 1218 (.iconst 2) 1 rfl) (aw_n hK 9 1219 (.iadd) 1 rfl) (aw_n hK 10 1220 (.iaload) 1 rfl) ⟨by omega, hL.2⟩ ?_
  refine aw_s 1222 (al i o6 o7 o8) (List.map az_e [az_r 43, az_i (xs (i + 2)).toInt, az_i (xs (i + 1)).toInt, az_r 0]) (aw_n hK 11 1221 (.aload_n 3) 1 rfl) rfl ?_
  refine aw_w (d := 13) (N1 := 1) (N2 := N) 1225 (st := [az_r 43, az_i (xs (i + 2)).toInt, az_i (xs (i + 1)).toInt, az_r 0]) (aw_n hK 12 1222 (.invokestatic 203) 3 rfl) rfl rfl (by omega) (wl_trollOf (zc_trollOf H hh aw_x aw_x)) (fun v t gl2 gd2 q => ?_) (fun E t gl2 gd2 q => by obtain ⟨_, k, _, w, _⟩ := q; cases w)
  obtain ⟨rfl, k, hk, e, q⟩ := q
  cases e
  refine aw_s 1227 (al i (some (az_e (az_i ((k : Nat) : Int)))) o7 o8) [] (aw_n hK 13 1225 (.istore 6) 2 rfl) rfl ?_
  refine aw_s 1228 (al i (some (az_e (az_i ((k : Nat) : Int)))) o7 o8) (List.map az_e [az_r 34]) (aw_n hK 14 1227 (.aload_n 2) 1 rfl) rfl ?_
  refine aw_ai (p := 1228) (j := 1) (aw_n hK 15 1228 (.aload_n 0) 1 rfl) (aw_n hK 16 1229 (.iload 5) 2 rfl) (aw_n hK 17 1231 (.iconst 1) 1 rfl) (aw_n hK 18 1232 (.iadd) 1 rfl) (aw_n hK 19 1233 (.iaload) 1 rfl) ⟨by omega, hL.2⟩ ?_
  refine aw_ai (p := 1234) (j := 2) (aw_n hK 20 1234 (.aload_n 0) 1 rfl) (aw_n hK 21 1235 (.iload 5) 2 rfl) (aw_n hK 22 1237 (.iconst 2) 1 rfl) (aw_n hK 23 1238 (.iadd) 1 rfl) (aw_n hK 24 1239 (.iaload) 1 rfl) ⟨by omega, hL.2⟩ ?_
  refine aw_c (d := 13) 1243 (st := [az_i (xs (i + 2)).toInt, az_i (xs (i + 1)).toInt, az_r 34]) (aw_n hK 25 1240 (.invokevirtual 205) 3 rfl) rfl rfl (az_deep q (by decide)) (fun v t2 w => ?_) (fun E t2 w => by obtain ⟨_, _, _, w, _⟩ := w; cases w)
  obtain ⟨w1, w2, v2, w3, w4⟩ := w
  cases w3
  exact aw_tail (p := 1243) (off := 1474) (by decide +kernel) (by decide) hk w2 w4 (fun o7 => K _ _ _ _ _ _ w1)
theorem lc_goatOf {L : Nat} {xs : Nat → Int32} {s : az_S} {gl : Nat → Nat → Int64} {gd : Nat → Nat → UInt64} {N : Nat} {Q : Option Value ⊕ Nat → az_S → (Nat → Nat → Int64) → (Nat → Nat → UInt64) → Prop} {i : Nat} {o6 o7 o8 : Option Value} {h : Nat} (H : zyS s h) (hh : h + 10 ≤ 10000) (hL : i + 5 ≤ L ∧ L < 2147483648) (K : ∀ t gl2 gd2 o6 o7 o8, zyS t (h + 10) → aw_R L xs 14 am_m_L_law 2747 (al i o6 o7 o8) [] t gl2 gd2 N Q) : aw_R L xs 14 am_m_L_law 1276 (al i o6 o7 o8) [] s gl gd (N + 1) Q := by
  have hK : ∀ q, q ∈ ([(1276, .aload_n 1, 1), (1277, .aload_n 0, 1), (1278, .iload 5, 2), (1280, .iconst 1, 1), (1281, .iadd, 1), (1282, .iaload, 1), (1283, .aload_n 0, 1), (1284, .iload 5, 2), (1286, .iconst 2, 1), (1287, .iadd, 1), (1288, .iaload, 1), (1289, .aload_n 3, 1), (1290, .invokestatic 206, 3), (1293, .istore 6, 2), (1295, .aload_n 2, 1), (1296, .aload_n 0, 1), (1297, .iload 5, 2), (1299, .iconst 1, 1), (1300, .iadd, 1), (1301, .iaload, 1), (1302, .aload_n 0, 1), (1303, .iload 5, 2), (1305, .iconst 2, 1), (1306, .iadd, 1), (1307, .iaload, 1), (1308, .invokevirtual 208, 3)] : List (Nat × Instr × Nat)) → am_find q.1 am_c_L_law = some q.2 := by decide +kernel
  refine aw_s 1277 (al i o6 o7 o8) (List.map az_e [az_r 0]) (aw_n hK 0 1276 (.aload_n 1) 1 rfl) rfl ?_
  refine aw_ai (p := 1277) (j := 1) (aw_n hK 1 1277 (.aload_n 0) 1 rfl) (aw_n hK 2 1278 (.iload 5) 2 rfl) (aw_n hK 3 1280 (.iconst 1) 1 rfl) (aw_n hK 4 1281 (.iadd) 1 rfl) (aw_n hK 5 1282 (.iaload) 1 rfl) ⟨by omega, hL.2⟩ ?_
  refine aw_ai (p := 1283) (j := 2) (aw_n hK 6 1283 (.aload_n 0) 1 rfl) (aw_n hK 7 1284 (.iload 5) 2 rfl) (aw_n hK 8 1286 (.iconst 2) 1 rfl) (aw_n hK 9 1287 (.iadd) 1 rfl) (aw_n hK 10 1288 (.iaload) 1 rfl) ⟨by omega, hL.2⟩ ?_
  refine aw_s 1290 (al i o6 o7 o8) (List.map az_e [az_r 43, az_i (xs (i + 2)).toInt, az_i (xs (i + 1)).toInt, az_r 0]) (aw_n hK 11 1289 (.aload_n 3) 1 rfl) rfl ?_
  refine aw_w (d := 13) (N1 := 1) (N2 := N) 1293 (st := [az_r 43, az_i (xs (i + 2)).toInt, az_i (xs (i + 1)).toInt, az_r 0]) (aw_n hK 12 1290 (.invokestatic 206) 3 rfl) rfl rfl (by omega) (wl_goatOf (zc_goatOf H hh aw_x aw_x)) (fun v t gl2 gd2 q => ?_) (fun E t gl2 gd2 q => by obtain ⟨_, k, _, w, _⟩ := q; cases w)
  obtain ⟨rfl, k, hk, e, q⟩ := q
  cases e
  refine aw_s 1295 (al i (some (az_e (az_i ((k : Nat) : Int)))) o7 o8) [] (aw_n hK 13 1293 (.istore 6) 2 rfl) rfl ?_
  refine aw_s 1296 (al i (some (az_e (az_i ((k : Nat) : Int)))) o7 o8) (List.map az_e [az_r 34]) (aw_n hK 14 1295 (.aload_n 2) 1 rfl) rfl ?_
  refine aw_ai (p := 1296) (j := 1) (aw_n hK 15 1296 (.aload_n 0) 1 rfl) (aw_n hK 16 1297 (.iload 5) 2 rfl) (aw_n hK 17 1299 (.iconst 1) 1 rfl) (aw_n hK 18 1300 (.iadd) 1 rfl) (aw_n hK 19 1301 (.iaload) 1 rfl) ⟨by omega, hL.2⟩ ?_
  refine aw_ai (p := 1302) (j := 2) (aw_n hK 20 1302 (.aload_n 0) 1 rfl) (aw_n hK 21 1303 (.iload 5) 2 rfl) (aw_n hK 22 1305 (.iconst 2) 1 rfl) (aw_n hK 23 1306 (.iadd) 1 rfl) (aw_n hK 24 1307 (.iaload) 1 rfl) ⟨by omega, hL.2⟩ ?_
  refine aw_c (d := 13) 1311 (st := [az_i (xs (i + 2)).toInt, az_i (xs (i + 1)).toInt, az_r 34]) (aw_n hK 25 1308 (.invokevirtual 208) 3 rfl) rfl rfl (az_deep q (by decide)) (fun v t2 w => ?_) (fun E t2 w => by obtain ⟨_, _, _, w, _⟩ := w; cases w)
  obtain ⟨w1, w2, v2, w3, w4⟩ := w
  cases w3
  exact aw_tail (p := 1311) (off := 1406) (by decide +kernel) (by decide) hk w2 w4 (fun o7 => K _ _ _ _ _ _ w1)
theorem lc_due {L : Nat} {xs : Nat → Int32} {s : az_S} {gl : Nat → Nat → Int64} {gd : Nat → Nat → UInt64} {N : Nat} {Q : Option Value ⊕ Nat → az_S → (Nat → Nat → Int64) → (Nat → Nat → UInt64) → Prop} {i : Nat} {o6 o7 o8 : Option Value} {h : Nat} (H : zyS s h) (hh : h + 10 ≤ 10000) (hL : i + 5 ≤ L ∧ L < 2147483648) (K : ∀ t gl2 gd2 o6 o7 o8, zyS t (h + 10) → aw_R L xs 14 am_m_L_law 2747 (al i o6 o7 o8) [] t gl2 gd2 N Q) : aw_R L xs 14 am_m_L_law 1344 (al i o6 o7 o8) [] s gl gd (N + 1) Q := by
  have hK : ∀ q, q ∈ ([(1344, .aload_n 1, 1), (1345, .aload_n 0, 1), (1346, .iload 5, 2), (1348, .iconst 1, 1), (1349, .iadd, 1), (1350, .iaload, 1), (1351, .aload_n 3, 1), (1352, .invokestatic 209, 3), (1355, .istore 6, 2), (1357, .aload_n 2, 1), (1358, .aload_n 0, 1), (1359, .iload 5, 2), (1361, .iconst 1, 1), (1362, .iadd, 1), (1363, .iaload, 1), (1364, .invokevirtual 211, 3)] : List (Nat × Instr × Nat)) → am_find q.1 am_c_L_law = some q.2 := by decide +kernel
  refine aw_s 1345 (al i o6 o7 o8) (List.map az_e [az_r 0]) (aw_n hK 0 1344 (.aload_n 1) 1 rfl) rfl ?_
  refine aw_ai (p := 1345) (j := 1) (aw_n hK 1 1345 (.aload_n 0) 1 rfl) (aw_n hK 2 1346 (.iload 5) 2 rfl) (aw_n hK 3 1348 (.iconst 1) 1 rfl) (aw_n hK 4 1349 (.iadd) 1 rfl) (aw_n hK 5 1350 (.iaload) 1 rfl) ⟨by omega, hL.2⟩ ?_
  refine aw_s 1352 (al i o6 o7 o8) (List.map az_e [az_r 43, az_i (xs (i + 1)).toInt, az_r 0]) (aw_n hK 6 1351 (.aload_n 3) 1 rfl) rfl ?_
  refine aw_w (d := 13) (N1 := 1) (N2 := N) 1355 (st := [az_r 43, az_i (xs (i + 1)).toInt, az_r 0]) (aw_n hK 7 1352 (.invokestatic 209) 3 rfl) rfl rfl (by omega) (wl_due (zc_due H hh aw_x)) (fun v t gl2 gd2 q => ?_) (fun E t gl2 gd2 q => by obtain ⟨_, k, _, w, _⟩ := q; cases w)
  obtain ⟨rfl, k, hk, e, q⟩ := q
  cases e
  refine aw_s 1357 (al i (some (az_e (az_i ((k : Nat) : Int)))) o7 o8) [] (aw_n hK 8 1355 (.istore 6) 2 rfl) rfl ?_
  refine aw_s 1358 (al i (some (az_e (az_i ((k : Nat) : Int)))) o7 o8) (List.map az_e [az_r 34]) (aw_n hK 9 1357 (.aload_n 2) 1 rfl) rfl ?_
  refine aw_ai (p := 1358) (j := 1) (aw_n hK 10 1358 (.aload_n 0) 1 rfl) (aw_n hK 11 1359 (.iload 5) 2 rfl) (aw_n hK 12 1361 (.iconst 1) 1 rfl) (aw_n hK 13 1362 (.iadd) 1 rfl) (aw_n hK 14 1363 (.iaload) 1 rfl) ⟨by omega, hL.2⟩ ?_
  refine aw_c (d := 13) 1367 (st := [az_i (xs (i + 1)).toInt, az_r 34]) (aw_n hK 15 1364 (.invokevirtual 211) 3 rfl) rfl rfl (az_deep q (by decide)) (fun v t2 w => ?_) (fun E t2 w => by obtain ⟨_, _, _, w, _⟩ := w; cases w)
  obtain ⟨w1, w2, v2, w3, w4⟩ := w
  cases w3
  exact aw_tail (p := 1367) (off := 1350) (by decide +kernel) (by decide) hk w2 w4 (fun o7 => K _ _ _ _ _ _ w1)
theorem lc_takes {L : Nat} {xs : Nat → Int32} {s : az_S} {gl : Nat → Nat → Int64} {gd : Nat → Nat → UInt64} {N : Nat} {Q : Option Value ⊕ Nat → az_S → (Nat → Nat → Int64) → (Nat → Nat → UInt64) → Prop} {i : Nat} {o6 o7 o8 : Option Value} {h : Nat} (H : zyS s h) (hh : h + 10 ≤ 10000) (hL : i + 5 ≤ L ∧ L < 2147483648) (K : ∀ t gl2 gd2 o6 o7 o8, zyS t (h + 10) → aw_R L xs 14 am_m_L_law 2747 (al i o6 o7 o8) [] t gl2 gd2 N Q) : aw_R L xs 14 am_m_L_law 1400 (al i o6 o7 o8) [] s gl gd (N + 1) Q := by
  have hK : ∀ q, q ∈ ([(1400, .aload_n 1, 1), (1401, .aload_n 0, 1), (1402, .iload 5, 2), (1404, .iconst 1, 1), (1405, .iadd, 1), (1406, .iaload, 1), (1407, .aload_n 3, 1), (1408, .invokestatic 212, 3), (1411, .istore 6, 2), (1413, .aload_n 2, 1), (1414, .aload_n 0, 1), (1415, .iload 5, 2), (1417, .iconst 1, 1), (1418, .iadd, 1), (1419, .iaload, 1), (1420, .invokevirtual 214, 3)] : List (Nat × Instr × Nat)) → am_find q.1 am_c_L_law = some q.2 := by decide +kernel
  refine aw_s 1401 (al i o6 o7 o8) (List.map az_e [az_r 0]) (aw_n hK 0 1400 (.aload_n 1) 1 rfl) rfl ?_
  refine aw_ai (p := 1401) (j := 1) (aw_n hK 1 1401 (.aload_n 0) 1 rfl) (aw_n hK 2 1402 (.iload 5) 2 rfl) (aw_n hK 3 1404 (.iconst 1) 1 rfl) (aw_n hK 4 1405 (.iadd) 1 rfl) (aw_n hK 5 1406 (.iaload) 1 rfl) ⟨by omega, hL.2⟩ ?_
  refine aw_s 1408 (al i o6 o7 o8) (List.map az_e [az_r 43, az_i (xs (i + 1)).toInt, az_r 0]) (aw_n hK 6 1407 (.aload_n 3) 1 rfl) rfl ?_
  refine aw_w (d := 13) (N1 := 1) (N2 := N) 1411 (st := [az_r 43, az_i (xs (i + 1)).toInt, az_r 0]) (aw_n hK 7 1408 (.invokestatic 212) 3 rfl) rfl rfl (by omega) (wl_takes (zc_takes H hh aw_x)) (fun v t gl2 gd2 q => ?_) (fun E t gl2 gd2 q => by obtain ⟨_, k, _, w, _⟩ := q; cases w)
  obtain ⟨rfl, k, hk, e, q⟩ := q
  cases e
  refine aw_s 1413 (al i (some (az_e (az_i ((k : Nat) : Int)))) o7 o8) [] (aw_n hK 8 1411 (.istore 6) 2 rfl) rfl ?_
  refine aw_s 1414 (al i (some (az_e (az_i ((k : Nat) : Int)))) o7 o8) (List.map az_e [az_r 34]) (aw_n hK 9 1413 (.aload_n 2) 1 rfl) rfl ?_
  refine aw_ai (p := 1414) (j := 1) (aw_n hK 10 1414 (.aload_n 0) 1 rfl) (aw_n hK 11 1415 (.iload 5) 2 rfl) (aw_n hK 12 1417 (.iconst 1) 1 rfl) (aw_n hK 13 1418 (.iadd) 1 rfl) (aw_n hK 14 1419 (.iaload) 1 rfl) ⟨by omega, hL.2⟩ ?_
  refine aw_c (d := 13) 1423 (st := [az_i (xs (i + 1)).toInt, az_r 34]) (aw_n hK 15 1420 (.invokevirtual 214) 3 rfl) rfl rfl (az_deep q (by decide)) (fun v t2 w => ?_) (fun E t2 w => by obtain ⟨_, _, _, w, _⟩ := w; cases w)
  obtain ⟨w1, w2, v2, w3, w4⟩ := w
  cases w3
  exact aw_tail (p := 1423) (off := 1294) (by decide +kernel) (by decide) hk w2 w4 (fun o7 => K _ _ _ _ _ _ w1)
theorem lc_cheapest {L : Nat} {xs : Nat → Int32} {s : az_S} {gl : Nat → Nat → Int64} {gd : Nat → Nat → UInt64} {N : Nat} {Q : Option Value ⊕ Nat → az_S → (Nat → Nat → Int64) → (Nat → Nat → UInt64) → Prop} {i : Nat} {o6 o7 o8 : Option Value} {h : Nat} (H : zyS s h) (hh : h + 10 ≤ 10000) (hL : i + 5 ≤ L ∧ L < 2147483648) (K : ∀ t gl2 gd2 o6 o7 o8, zyS t (h + 10) → aw_R L xs 14 am_m_L_law 2747 (al i o6 o7 o8) [] t gl2 gd2 N Q) : aw_R L xs 14 am_m_L_law 1456 (al i o6 o7 o8) [] s gl gd (N + 1) Q := by
  have hK : ∀ q, q ∈ ([(1456, .aload_n 1, 1), (1457, .aload_n 0, 1), (1458, .iload 5, 2), (1460, .iconst 1, 1), (1461, .iadd, 1), (1462, .iaload, 1), (1463, .aload_n 0, 1), (1464, .iload 5, 2), (1466, .iconst 2, 1), (1467, .iadd, 1), (1468, .iaload, 1), (1469, .aload_n 3, 1), (1470, .invokestatic 215, 3), (1473, .istore 6, 2), (1475, .aload_n 2, 1), (1476, .aload_n 0, 1), (1477, .iload 5, 2), (1479, .iconst 1, 1), (1480, .iadd, 1), (1481, .iaload, 1), (1482, .aload_n 0, 1), (1483, .iload 5, 2), (1485, .iconst 2, 1), (1486, .iadd, 1), (1487, .iaload, 1), (1488, .invokevirtual 217, 3)] : List (Nat × Instr × Nat)) → am_find q.1 am_c_L_law = some q.2 := by decide +kernel
  refine aw_s 1457 (al i o6 o7 o8) (List.map az_e [az_r 0]) (aw_n hK 0 1456 (.aload_n 1) 1 rfl) rfl ?_
  refine aw_ai (p := 1457) (j := 1) (aw_n hK 1 1457 (.aload_n 0) 1 rfl) (aw_n hK 2 1458 (.iload 5) 2 rfl) (aw_n hK 3 1460 (.iconst 1) 1 rfl) (aw_n hK 4 1461 (.iadd) 1 rfl) (aw_n hK 5 1462 (.iaload) 1 rfl) ⟨by omega, hL.2⟩ ?_
  refine aw_ai (p := 1463) (j := 2) (aw_n hK 6 1463 (.aload_n 0) 1 rfl) (aw_n hK 7 1464 (.iload 5) 2 rfl) (aw_n hK 8 1466 (.iconst 2) 1 rfl) (aw_n hK 9 1467 (.iadd) 1 rfl) (aw_n hK 10 1468 (.iaload) 1 rfl) ⟨by omega, hL.2⟩ ?_
  refine aw_s 1470 (al i o6 o7 o8) (List.map az_e [az_r 43, az_i (xs (i + 2)).toInt, az_i (xs (i + 1)).toInt, az_r 0]) (aw_n hK 11 1469 (.aload_n 3) 1 rfl) rfl ?_
  refine aw_w (d := 13) (N1 := 1) (N2 := N) 1473 (st := [az_r 43, az_i (xs (i + 2)).toInt, az_i (xs (i + 1)).toInt, az_r 0]) (aw_n hK 12 1470 (.invokestatic 215) 3 rfl) rfl rfl (by omega) (wl_cheapest (zc_cheapest H hh aw_x aw_x)) (fun v t gl2 gd2 q => ?_) (fun E t gl2 gd2 q => by obtain ⟨_, k, _, w, _⟩ := q; cases w)
  obtain ⟨rfl, k, hk, e, q⟩ := q
  cases e
  refine aw_s 1475 (al i (some (az_e (az_i ((k : Nat) : Int)))) o7 o8) [] (aw_n hK 13 1473 (.istore 6) 2 rfl) rfl ?_
  refine aw_s 1476 (al i (some (az_e (az_i ((k : Nat) : Int)))) o7 o8) (List.map az_e [az_r 34]) (aw_n hK 14 1475 (.aload_n 2) 1 rfl) rfl ?_
  refine aw_ai (p := 1476) (j := 1) (aw_n hK 15 1476 (.aload_n 0) 1 rfl) (aw_n hK 16 1477 (.iload 5) 2 rfl) (aw_n hK 17 1479 (.iconst 1) 1 rfl) (aw_n hK 18 1480 (.iadd) 1 rfl) (aw_n hK 19 1481 (.iaload) 1 rfl) ⟨by omega, hL.2⟩ ?_
  refine aw_ai (p := 1482) (j := 2) (aw_n hK 20 1482 (.aload_n 0) 1 rfl) (aw_n hK 21 1483 (.iload 5) 2 rfl) (aw_n hK 22 1485 (.iconst 2) 1 rfl) (aw_n hK 23 1486 (.iadd) 1 rfl) (aw_n hK 24 1487 (.iaload) 1 rfl) ⟨by omega, hL.2⟩ ?_
  refine aw_c (d := 13) 1491 (st := [az_i (xs (i + 2)).toInt, az_i (xs (i + 1)).toInt, az_r 34]) (aw_n hK 25 1488 (.invokevirtual 217) 3 rfl) rfl rfl (az_deep q (by decide)) (fun v t2 w => ?_) (fun E t2 w => by obtain ⟨_, _, _, w, _⟩ := w; cases w)
  obtain ⟨w1, w2, v2, w3, w4⟩ := w
  cases w3
  exact aw_tail (p := 1491) (off := 1226) (by decide +kernel) (by decide) hk w2 w4 (fun o7 => K _ _ _ _ _ _ w1)
theorem lc_cheapestAgain {L : Nat} {xs : Nat → Int32} {s : az_S} {gl : Nat → Nat → Int64} {gd : Nat → Nat → UInt64} {N : Nat} {Q : Option Value ⊕ Nat → az_S → (Nat → Nat → Int64) → (Nat → Nat → UInt64) → Prop} {i : Nat} {o6 o7 o8 : Option Value} {h : Nat} (H : zyS s h) (hh : h + 10 ≤ 10000) (hL : i + 5 ≤ L ∧ L < 2147483648) (K : ∀ t gl2 gd2 o6 o7 o8, zyS t (h + 10) → aw_R L xs 14 am_m_L_law 2747 (al i o6 o7 o8) [] t gl2 gd2 N Q) : aw_R L xs 14 am_m_L_law 1524 (al i o6 o7 o8) [] s gl gd (N + 1) Q := by
  have hK : ∀ q, q ∈ ([(1524, .aload_n 1, 1), (1525, .aload_n 0, 1), (1526, .iload 5, 2), (1528, .iconst 1, 1), (1529, .iadd, 1), (1530, .iaload, 1), (1531, .aload_n 0, 1), (1532, .iload 5, 2), (1534, .iconst 2, 1), (1535, .iadd, 1), (1536, .iaload, 1), (1537, .aload_n 3, 1), (1538, .invokestatic 218, 3), (1541, .istore 6, 2), (1543, .aload_n 2, 1), (1544, .aload_n 0, 1), (1545, .iload 5, 2), (1547, .iconst 1, 1), (1548, .iadd, 1), (1549, .iaload, 1), (1550, .aload_n 0, 1), (1551, .iload 5, 2), (1553, .iconst 2, 1), (1554, .iadd, 1), (1555, .iaload, 1), (1556, .invokevirtual 220, 3)] : List (Nat × Instr × Nat)) → am_find q.1 am_c_L_law = some q.2 := by decide +kernel
  refine aw_s 1525 (al i o6 o7 o8) (List.map az_e [az_r 0]) (aw_n hK 0 1524 (.aload_n 1) 1 rfl) rfl ?_
  refine aw_ai (p := 1525) (j := 1) (aw_n hK 1 1525 (.aload_n 0) 1 rfl) (aw_n hK 2 1526 (.iload 5) 2 rfl) (aw_n hK 3 1528 (.iconst 1) 1 rfl) (aw_n hK 4 1529 (.iadd) 1 rfl) (aw_n hK 5 1530 (.iaload) 1 rfl) ⟨by omega, hL.2⟩ ?_
  refine aw_ai (p := 1531) (j := 2) (aw_n hK 6 1531 (.aload_n 0) 1 rfl) (aw_n hK 7 1532 (.iload 5) 2 rfl) (aw_n hK 8 1534 (.iconst 2) 1 rfl) (aw_n hK 9 1535 (.iadd) 1 rfl) (aw_n hK 10 1536 (.iaload) 1 rfl) ⟨by omega, hL.2⟩ ?_
  refine aw_s 1538 (al i o6 o7 o8) (List.map az_e [az_r 43, az_i (xs (i + 2)).toInt, az_i (xs (i + 1)).toInt, az_r 0]) (aw_n hK 11 1537 (.aload_n 3) 1 rfl) rfl ?_
  refine aw_w (d := 13) (N1 := 1) (N2 := N) 1541 (st := [az_r 43, az_i (xs (i + 2)).toInt, az_i (xs (i + 1)).toInt, az_r 0]) (aw_n hK 12 1538 (.invokestatic 218) 3 rfl) rfl rfl (by omega) (wl_cheapestAgain (zc_cheapestAgain H hh aw_x aw_x)) (fun v t gl2 gd2 q => ?_) (fun E t gl2 gd2 q => by obtain ⟨_, k, _, w, _⟩ := q; cases w)
  obtain ⟨rfl, k, hk, e, q⟩ := q
  cases e
  refine aw_s 1543 (al i (some (az_e (az_i ((k : Nat) : Int)))) o7 o8) [] (aw_n hK 13 1541 (.istore 6) 2 rfl) rfl ?_
  refine aw_s 1544 (al i (some (az_e (az_i ((k : Nat) : Int)))) o7 o8) (List.map az_e [az_r 34]) (aw_n hK 14 1543 (.aload_n 2) 1 rfl) rfl ?_
  refine aw_ai (p := 1544) (j := 1) (aw_n hK 15 1544 (.aload_n 0) 1 rfl) (aw_n hK 16 1545 (.iload 5) 2 rfl) (aw_n hK 17 1547 (.iconst 1) 1 rfl) (aw_n hK 18 1548 (.iadd) 1 rfl) (aw_n hK 19 1549 (.iaload) 1 rfl) ⟨by omega, hL.2⟩ ?_
  refine aw_ai (p := 1550) (j := 2) (aw_n hK 20 1550 (.aload_n 0) 1 rfl) (aw_n hK 21 1551 (.iload 5) 2 rfl) (aw_n hK 22 1553 (.iconst 2) 1 rfl) (aw_n hK 23 1554 (.iadd) 1 rfl) (aw_n hK 24 1555 (.iaload) 1 rfl) ⟨by omega, hL.2⟩ ?_
  refine aw_c (d := 13) 1559 (st := [az_i (xs (i + 2)).toInt, az_i (xs (i + 1)).toInt, az_r 34]) (aw_n hK 25 1556 (.invokevirtual 220) 3 rfl) rfl rfl (az_deep q (by decide)) (fun v t2 w => ?_) (fun E t2 w => by obtain ⟨_, _, _, w, _⟩ := w; cases w)
  obtain ⟨w1, w2, v2, w3, w4⟩ := w
  cases w3
  exact aw_tail (p := 1559) (off := 1158) (by decide +kernel) (by decide) hk w2 w4 (fun o7 => K _ _ _ _ _ _ w1)
theorem lc_fastest {L : Nat} {xs : Nat → Int32} {s : az_S} {gl : Nat → Nat → Int64} {gd : Nat → Nat → UInt64} {N : Nat} {Q : Option Value ⊕ Nat → az_S → (Nat → Nat → Int64) → (Nat → Nat → UInt64) → Prop} {i : Nat} {o6 o7 o8 : Option Value} {h : Nat} (H : zyS s h) (hh : h + 10 ≤ 10000) (hL : i + 5 ≤ L ∧ L < 2147483648) (K : ∀ t gl2 gd2 o6 o7 o8, zyS t (h + 10) → aw_R L xs 14 am_m_L_law 2747 (al i o6 o7 o8) [] t gl2 gd2 N Q) : aw_R L xs 14 am_m_L_law 1592 (al i o6 o7 o8) [] s gl gd (N + 1) Q := by
  have hK : ∀ q, q ∈ ([(1592, .aload_n 1, 1), (1593, .aload_n 0, 1), (1594, .iload 5, 2), (1596, .iconst 1, 1), (1597, .iadd, 1), (1598, .iaload, 1), (1599, .aload_n 0, 1), (1600, .iload 5, 2), (1602, .iconst 2, 1), (1603, .iadd, 1), (1604, .iaload, 1), (1605, .aload_n 3, 1), (1606, .invokestatic 221, 3), (1609, .istore 6, 2), (1611, .aload_n 2, 1), (1612, .aload_n 0, 1), (1613, .iload 5, 2), (1615, .iconst 1, 1), (1616, .iadd, 1), (1617, .iaload, 1), (1618, .aload_n 0, 1), (1619, .iload 5, 2), (1621, .iconst 2, 1), (1622, .iadd, 1), (1623, .iaload, 1), (1624, .invokevirtual 223, 3)] : List (Nat × Instr × Nat)) → am_find q.1 am_c_L_law = some q.2 := by decide +kernel
  refine aw_s 1593 (al i o6 o7 o8) (List.map az_e [az_r 0]) (aw_n hK 0 1592 (.aload_n 1) 1 rfl) rfl ?_
  refine aw_ai (p := 1593) (j := 1) (aw_n hK 1 1593 (.aload_n 0) 1 rfl) (aw_n hK 2 1594 (.iload 5) 2 rfl) (aw_n hK 3 1596 (.iconst 1) 1 rfl) (aw_n hK 4 1597 (.iadd) 1 rfl) (aw_n hK 5 1598 (.iaload) 1 rfl) ⟨by omega, hL.2⟩ ?_
  refine aw_ai (p := 1599) (j := 2) (aw_n hK 6 1599 (.aload_n 0) 1 rfl) (aw_n hK 7 1600 (.iload 5) 2 rfl) (aw_n hK 8 1602 (.iconst 2) 1 rfl) (aw_n hK 9 1603 (.iadd) 1 rfl) (aw_n hK 10 1604 (.iaload) 1 rfl) ⟨by omega, hL.2⟩ ?_
  refine aw_s 1606 (al i o6 o7 o8) (List.map az_e [az_r 43, az_i (xs (i + 2)).toInt, az_i (xs (i + 1)).toInt, az_r 0]) (aw_n hK 11 1605 (.aload_n 3) 1 rfl) rfl ?_
  refine aw_w (d := 13) (N1 := 1) (N2 := N) 1609 (st := [az_r 43, az_i (xs (i + 2)).toInt, az_i (xs (i + 1)).toInt, az_r 0]) (aw_n hK 12 1606 (.invokestatic 221) 3 rfl) rfl rfl (by omega) (wl_fastest (zc_fastest H hh aw_x aw_x)) (fun v t gl2 gd2 q => ?_) (fun E t gl2 gd2 q => by obtain ⟨_, k, _, w, _⟩ := q; cases w)
  obtain ⟨rfl, k, hk, e, q⟩ := q
  cases e
  refine aw_s 1611 (al i (some (az_e (az_i ((k : Nat) : Int)))) o7 o8) [] (aw_n hK 13 1609 (.istore 6) 2 rfl) rfl ?_
  refine aw_s 1612 (al i (some (az_e (az_i ((k : Nat) : Int)))) o7 o8) (List.map az_e [az_r 34]) (aw_n hK 14 1611 (.aload_n 2) 1 rfl) rfl ?_
  refine aw_ai (p := 1612) (j := 1) (aw_n hK 15 1612 (.aload_n 0) 1 rfl) (aw_n hK 16 1613 (.iload 5) 2 rfl) (aw_n hK 17 1615 (.iconst 1) 1 rfl) (aw_n hK 18 1616 (.iadd) 1 rfl) (aw_n hK 19 1617 (.iaload) 1 rfl) ⟨by omega, hL.2⟩ ?_
  refine aw_ai (p := 1618) (j := 2) (aw_n hK 20 1618 (.aload_n 0) 1 rfl) (aw_n hK 21 1619 (.iload 5) 2 rfl) (aw_n hK 22 1621 (.iconst 2) 1 rfl) (aw_n hK 23 1622 (.iadd) 1 rfl) (aw_n hK 24 1623 (.iaload) 1 rfl) ⟨by omega, hL.2⟩ ?_
  refine aw_c (d := 13) 1627 (st := [az_i (xs (i + 2)).toInt, az_i (xs (i + 1)).toInt, az_r 34]) (aw_n hK 25 1624 (.invokevirtual 223) 3 rfl) rfl rfl (az_deep q (by decide)) (fun v t2 w => ?_) (fun E t2 w => by obtain ⟨_, _, _, w, _⟩ := w; cases w)
  obtain ⟨w1, w2, v2, w3, w4⟩ := w
  cases w3
  exact aw_tail (p := 1627) (off := 1090) (by decide +kernel) (by decide) hk w2 w4 (fun o7 => K _ _ _ _ _ _ w1)
theorem lc_fastestAgain {L : Nat} {xs : Nat → Int32} {s : az_S} {gl : Nat → Nat → Int64} {gd : Nat → Nat → UInt64} {N : Nat} {Q : Option Value ⊕ Nat → az_S → (Nat → Nat → Int64) → (Nat → Nat → UInt64) → Prop} {i : Nat} {o6 o7 o8 : Option Value} {h : Nat} (H : zyS s h) (hh : h + 10 ≤ 10000) (hL : i + 5 ≤ L ∧ L < 2147483648) (K : ∀ t gl2 gd2 o6 o7 o8, zyS t (h + 10) → aw_R L xs 14 am_m_L_law 2747 (al i o6 o7 o8) [] t gl2 gd2 N Q) : aw_R L xs 14 am_m_L_law 1660 (al i o6 o7 o8) [] s gl gd (N + 1) Q := by
  have hK : ∀ q, q ∈ ([(1660, .aload_n 1, 1), (1661, .aload_n 0, 1), (1662, .iload 5, 2), (1664, .iconst 1, 1), (1665, .iadd, 1), (1666, .iaload, 1), (1667, .aload_n 0, 1), (1668, .iload 5, 2), (1670, .iconst 2, 1), (1671, .iadd, 1), (1672, .iaload, 1), (1673, .aload_n 3, 1), (1674, .invokestatic 224, 3), (1677, .istore 6, 2), (1679, .aload_n 2, 1), (1680, .aload_n 0, 1), (1681, .iload 5, 2), (1683, .iconst 1, 1), (1684, .iadd, 1), (1685, .iaload, 1), (1686, .aload_n 0, 1), (1687, .iload 5, 2), (1689, .iconst 2, 1), (1690, .iadd, 1), (1691, .iaload, 1), (1692, .invokevirtual 226, 3)] : List (Nat × Instr × Nat)) → am_find q.1 am_c_L_law = some q.2 := by decide +kernel
  refine aw_s 1661 (al i o6 o7 o8) (List.map az_e [az_r 0]) (aw_n hK 0 1660 (.aload_n 1) 1 rfl) rfl ?_
  refine aw_ai (p := 1661) (j := 1) (aw_n hK 1 1661 (.aload_n 0) 1 rfl) (aw_n hK 2 1662 (.iload 5) 2 rfl) (aw_n hK 3 1664 (.iconst 1) 1 rfl) (aw_n hK 4 1665 (.iadd) 1 rfl) (aw_n hK 5 1666 (.iaload) 1 rfl) ⟨by omega, hL.2⟩ ?_
  refine aw_ai (p := 1667) (j := 2) (aw_n hK 6 1667 (.aload_n 0) 1 rfl) (aw_n hK 7 1668 (.iload 5) 2 rfl) (aw_n hK 8 1670 (.iconst 2) 1 rfl) (aw_n hK 9 1671 (.iadd) 1 rfl) (aw_n hK 10 1672 (.iaload) 1 rfl) ⟨by omega, hL.2⟩ ?_
  refine aw_s 1674 (al i o6 o7 o8) (List.map az_e [az_r 43, az_i (xs (i + 2)).toInt, az_i (xs (i + 1)).toInt, az_r 0]) (aw_n hK 11 1673 (.aload_n 3) 1 rfl) rfl ?_
  refine aw_w (d := 13) (N1 := 1) (N2 := N) 1677 (st := [az_r 43, az_i (xs (i + 2)).toInt, az_i (xs (i + 1)).toInt, az_r 0]) (aw_n hK 12 1674 (.invokestatic 224) 3 rfl) rfl rfl (by omega) (wl_fastestAgain (zc_fastestAgain H hh aw_x aw_x)) (fun v t gl2 gd2 q => ?_) (fun E t gl2 gd2 q => by obtain ⟨_, k, _, w, _⟩ := q; cases w)
  obtain ⟨rfl, k, hk, e, q⟩ := q
  cases e
  refine aw_s 1679 (al i (some (az_e (az_i ((k : Nat) : Int)))) o7 o8) [] (aw_n hK 13 1677 (.istore 6) 2 rfl) rfl ?_
  refine aw_s 1680 (al i (some (az_e (az_i ((k : Nat) : Int)))) o7 o8) (List.map az_e [az_r 34]) (aw_n hK 14 1679 (.aload_n 2) 1 rfl) rfl ?_
  refine aw_ai (p := 1680) (j := 1) (aw_n hK 15 1680 (.aload_n 0) 1 rfl) (aw_n hK 16 1681 (.iload 5) 2 rfl) (aw_n hK 17 1683 (.iconst 1) 1 rfl) (aw_n hK 18 1684 (.iadd) 1 rfl) (aw_n hK 19 1685 (.iaload) 1 rfl) ⟨by omega, hL.2⟩ ?_
  refine aw_ai (p := 1686) (j := 2) (aw_n hK 20 1686 (.aload_n 0) 1 rfl) (aw_n hK 21 1687 (.iload 5) 2 rfl) (aw_n hK 22 1689 (.iconst 2) 1 rfl) (aw_n hK 23 1690 (.iadd) 1 rfl) (aw_n hK 24 1691 (.iaload) 1 rfl) ⟨by omega, hL.2⟩ ?_
  refine aw_c (d := 13) 1695 (st := [az_i (xs (i + 2)).toInt, az_i (xs (i + 1)).toInt, az_r 34]) (aw_n hK 25 1692 (.invokevirtual 226) 3 rfl) rfl rfl (az_deep q (by decide)) (fun v t2 w => ?_) (fun E t2 w => by obtain ⟨_, _, _, w, _⟩ := w; cases w)
  obtain ⟨w1, w2, v2, w3, w4⟩ := w
  cases w3
  exact aw_tail (p := 1695) (off := 1022) (by decide +kernel) (by decide) hk w2 w4 (fun o7 => K _ _ _ _ _ _ w1)
theorem lc_hangs {L : Nat} {xs : Nat → Int32} {s : az_S} {gl : Nat → Nat → Int64} {gd : Nat → Nat → UInt64} {N : Nat} {Q : Option Value ⊕ Nat → az_S → (Nat → Nat → Int64) → (Nat → Nat → UInt64) → Prop} {i : Nat} {o6 o7 o8 : Option Value} {h : Nat} (H : zyS s h) (hh : h + 10 ≤ 10000) (hL : i + 5 ≤ L ∧ L < 2147483648) (K : ∀ t gl2 gd2 o6 o7 o8, zyS t (h + 10) → aw_R L xs 14 am_m_L_law 2747 (al i o6 o7 o8) [] t gl2 gd2 N Q) : aw_R L xs 14 am_m_L_law 1728 (al i o6 o7 o8) [] s gl gd (N + 1) Q := by
  have hK : ∀ q, q ∈ ([(1728, .aload_n 1, 1), (1729, .aload_n 0, 1), (1730, .iload 5, 2), (1732, .iconst 1, 1), (1733, .iadd, 1), (1734, .iaload, 1), (1735, .aload_n 0, 1), (1736, .iload 5, 2), (1738, .iconst 2, 1), (1739, .iadd, 1), (1740, .iaload, 1), (1741, .aload_n 3, 1), (1742, .invokestatic 227, 3), (1745, .istore 6, 2), (1747, .aload_n 2, 1), (1748, .aload_n 0, 1), (1749, .iload 5, 2), (1751, .iconst 1, 1), (1752, .iadd, 1), (1753, .iaload, 1), (1754, .aload_n 0, 1), (1755, .iload 5, 2), (1757, .iconst 2, 1), (1758, .iadd, 1), (1759, .iaload, 1), (1760, .invokevirtual 229, 3)] : List (Nat × Instr × Nat)) → am_find q.1 am_c_L_law = some q.2 := by decide +kernel
  refine aw_s 1729 (al i o6 o7 o8) (List.map az_e [az_r 0]) (aw_n hK 0 1728 (.aload_n 1) 1 rfl) rfl ?_
  refine aw_ai (p := 1729) (j := 1) (aw_n hK 1 1729 (.aload_n 0) 1 rfl) (aw_n hK 2 1730 (.iload 5) 2 rfl) (aw_n hK 3 1732 (.iconst 1) 1 rfl) (aw_n hK 4 1733 (.iadd) 1 rfl) (aw_n hK 5 1734 (.iaload) 1 rfl) ⟨by omega, hL.2⟩ ?_
  refine aw_ai (p := 1735) (j := 2) (aw_n hK 6 1735 (.aload_n 0) 1 rfl) (aw_n hK 7 1736 (.iload 5) 2 rfl) (aw_n hK 8 1738 (.iconst 2) 1 rfl) (aw_n hK 9 1739 (.iadd) 1 rfl) (aw_n hK 10 1740 (.iaload) 1 rfl) ⟨by omega, hL.2⟩ ?_
  refine aw_s 1742 (al i o6 o7 o8) (List.map az_e [az_r 43, az_i (xs (i + 2)).toInt, az_i (xs (i + 1)).toInt, az_r 0]) (aw_n hK 11 1741 (.aload_n 3) 1 rfl) rfl ?_
  refine aw_w (d := 13) (N1 := 1) (N2 := N) 1745 (st := [az_r 43, az_i (xs (i + 2)).toInt, az_i (xs (i + 1)).toInt, az_r 0]) (aw_n hK 12 1742 (.invokestatic 227) 3 rfl) rfl rfl (by omega) (wl_hangs (zc_hangs H hh aw_x aw_x)) (fun v t gl2 gd2 q => ?_) (fun E t gl2 gd2 q => by obtain ⟨_, k, _, w, _⟩ := q; cases w)
  obtain ⟨rfl, k, hk, e, q⟩ := q
  cases e
  refine aw_s 1747 (al i (some (az_e (az_i ((k : Nat) : Int)))) o7 o8) [] (aw_n hK 13 1745 (.istore 6) 2 rfl) rfl ?_
  refine aw_s 1748 (al i (some (az_e (az_i ((k : Nat) : Int)))) o7 o8) (List.map az_e [az_r 34]) (aw_n hK 14 1747 (.aload_n 2) 1 rfl) rfl ?_
  refine aw_ai (p := 1748) (j := 1) (aw_n hK 15 1748 (.aload_n 0) 1 rfl) (aw_n hK 16 1749 (.iload 5) 2 rfl) (aw_n hK 17 1751 (.iconst 1) 1 rfl) (aw_n hK 18 1752 (.iadd) 1 rfl) (aw_n hK 19 1753 (.iaload) 1 rfl) ⟨by omega, hL.2⟩ ?_
  refine aw_ai (p := 1754) (j := 2) (aw_n hK 20 1754 (.aload_n 0) 1 rfl) (aw_n hK 21 1755 (.iload 5) 2 rfl) (aw_n hK 22 1757 (.iconst 2) 1 rfl) (aw_n hK 23 1758 (.iadd) 1 rfl) (aw_n hK 24 1759 (.iaload) 1 rfl) ⟨by omega, hL.2⟩ ?_
  refine aw_c (d := 13) 1763 (st := [az_i (xs (i + 2)).toInt, az_i (xs (i + 1)).toInt, az_r 34]) (aw_n hK 25 1760 (.invokevirtual 229) 3 rfl) rfl rfl (az_deep q (by decide)) (fun v t2 w => ?_) (fun E t2 w => by obtain ⟨_, _, _, w, _⟩ := w; cases w)
  obtain ⟨w1, w2, v2, w3, w4⟩ := w
  cases w3
  exact aw_tail (p := 1763) (off := 954) (by decide +kernel) (by decide) hk w2 w4 (fun o7 => K _ _ _ _ _ _ w1)
theorem lc_sum {L : Nat} {xs : Nat → Int32} {s : az_S} {gl : Nat → Nat → Int64} {gd : Nat → Nat → UInt64} {N : Nat} {Q : Option Value ⊕ Nat → az_S → (Nat → Nat → Int64) → (Nat → Nat → UInt64) → Prop} {i : Nat} {o6 o7 o8 : Option Value} {h : Nat} (H : zyS s h) (hh : h + 10 ≤ 10000) (hL : i + 5 ≤ L ∧ L < 2147483648) (K : ∀ t gl2 gd2 o6 o7 o8, zyS t (h + 10) → aw_R L xs 14 am_m_L_law 2747 (al i o6 o7 o8) [] t gl2 gd2 N Q) : aw_R L xs 14 am_m_L_law 1796 (al i o6 o7 o8) [] s gl gd (N + 1) Q := by
  have hK : ∀ q, q ∈ ([(1796, .aload_n 1, 1), (1797, .aload_n 0, 1), (1798, .iload 5, 2), (1800, .iconst 1, 1), (1801, .iadd, 1), (1802, .iaload, 1), (1803, .ifCond .eq 7, 3), (1810, .iconst 0, 1), (1811, .invokevirtual 230, 3), (1814, .aload_n 2, 1), (1815, .aload_n 0, 1), (1816, .iload 5, 2), (1818, .iconst 1, 1), (1819, .iadd, 1), (1820, .iaload, 1), (1821, .ifCond .eq 7, 3), (1828, .iconst 0, 1), (1829, .invokevirtual 234, 3), (1832, .if_icmp .eq 915, 3), (1806, .iconst 1, 1), (1807, .goto 4, 3), (1824, .iconst 1, 1), (1825, .goto 4, 3)] : List (Nat × Instr × Nat)) → am_find q.1 am_c_L_law = some q.2 := by decide +kernel
  by_cases hx1 : (xs (i + 1)).toInt = 0
  · skip
    refine aw_s 1797 (al i o6 o7 o8) (List.map az_e [az_r 0]) (aw_n hK 0 1796 (.aload_n 1) 1 rfl) rfl ?_
    refine aw_ai (p := 1797) (j := 1) (aw_n hK 1 1797 (.aload_n 0) 1 rfl) (aw_n hK 2 1798 (.iload 5) 2 rfl) (aw_n hK 3 1800 (.iconst 1) 1 rfl) (aw_n hK 4 1801 (.iadd) 1 rfl) (aw_n hK 5 1802 (.iaload) 1 rfl) ⟨by omega, hL.2⟩ ?_
    refine aw_b0 (p := 1803) (aw_n hK 6 1803 (.ifCond .eq 7) 3 rfl) (aw_n hK 7 1810 (.iconst 0) 1 rfl) hx1 ?_
    refine aw_c (d := 13) 1814 (st := [az_i 0, az_r 0]) (aw_n hK 8 1811 (.invokevirtual 230) 3 rfl) rfl rfl (az_deep (zc_sum_0 H hh) (by decide)) (fun v t q => ?_) (fun E t q => (awP_0 q).elim)
    obtain ⟨v0, rfl, q2⟩ := awP_v (k := 0) q
    refine aw_s 1815 (al i o6 o7 o8) (List.map az_e [az_r 34, az_i v0]) (aw_n hK 9 1814 (.aload_n 2) 1 rfl) rfl ?_
    refine aw_ai (p := 1815) (j := 1) (aw_n hK 10 1815 (.aload_n 0) 1 rfl) (aw_n hK 11 1816 (.iload 5) 2 rfl) (aw_n hK 12 1818 (.iconst 1) 1 rfl) (aw_n hK 13 1819 (.iadd) 1 rfl) (aw_n hK 14 1820 (.iaload) 1 rfl) ⟨by omega, hL.2⟩ ?_
    refine aw_b0 (p := 1821) (aw_n hK 15 1821 (.ifCond .eq 7) 3 rfl) (aw_n hK 16 1828 (.iconst 0) 1 rfl) hx1 ?_
    refine aw_c (d := 13) 1832 (st := [az_i 0, az_r 34, az_i v0]) (aw_n hK 17 1829 (.invokevirtual 234) 3 rfl) rfl rfl (az_deep q2 (by decide)) (fun v t2 w => ?_) (fun E t2 w => by cases w.2.2)
    obtain ⟨w1, w2, w3⟩ := w
    cases w3
    exact aw_s 2747 (al i o6 o7 o8) [] (aw_n hK 18 1832 (.if_icmp .eq 915) 3 rfl) (aw_if (by decide)) (aw_wk (K _ _ _ _ _ _ w1) (by omega) (fun _ _ _ _ w => w))
  · skip
    refine aw_s 1797 (al i o6 o7 o8) (List.map az_e [az_r 0]) (aw_n hK 0 1796 (.aload_n 1) 1 rfl) rfl ?_
    refine aw_ai (p := 1797) (j := 1) (aw_n hK 1 1797 (.aload_n 0) 1 rfl) (aw_n hK 2 1798 (.iload 5) 2 rfl) (aw_n hK 3 1800 (.iconst 1) 1 rfl) (aw_n hK 4 1801 (.iadd) 1 rfl) (aw_n hK 5 1802 (.iaload) 1 rfl) ⟨by omega, hL.2⟩ ?_
    refine aw_b1 (p := 1803) (aw_n hK 6 1803 (.ifCond .eq 7) 3 rfl) (aw_n hK 19 1806 (.iconst 1) 1 rfl) (aw_n hK 20 1807 (.goto 4) 3 rfl) ⟨aw_x, hx1⟩ ?_
    refine aw_c (d := 13) 1814 (st := [az_i 1, az_r 0]) (aw_n hK 8 1811 (.invokevirtual 230) 3 rfl) rfl rfl (az_deep (zc_sum_1 H hh) (by decide)) (fun v t q => ?_) (fun E t q => (awP_0 q).elim)
    obtain ⟨v0, rfl, q2⟩ := awP_v (k := 0) q
    refine aw_s 1815 (al i o6 o7 o8) (List.map az_e [az_r 34, az_i v0]) (aw_n hK 9 1814 (.aload_n 2) 1 rfl) rfl ?_
    refine aw_ai (p := 1815) (j := 1) (aw_n hK 10 1815 (.aload_n 0) 1 rfl) (aw_n hK 11 1816 (.iload 5) 2 rfl) (aw_n hK 12 1818 (.iconst 1) 1 rfl) (aw_n hK 13 1819 (.iadd) 1 rfl) (aw_n hK 14 1820 (.iaload) 1 rfl) ⟨by omega, hL.2⟩ ?_
    refine aw_b1 (p := 1821) (aw_n hK 15 1821 (.ifCond .eq 7) 3 rfl) (aw_n hK 21 1824 (.iconst 1) 1 rfl) (aw_n hK 22 1825 (.goto 4) 3 rfl) ⟨aw_x, hx1⟩ ?_
    refine aw_c (d := 13) 1832 (st := [az_i 1, az_r 34, az_i v0]) (aw_n hK 17 1829 (.invokevirtual 234) 3 rfl) rfl rfl (az_deep q2 (by decide)) (fun v t2 w => ?_) (fun E t2 w => by cases w.2.2)
    obtain ⟨w1, w2, w3⟩ := w
    cases w3
    exact aw_s 2747 (al i o6 o7 o8) [] (aw_n hK 18 1832 (.if_icmp .eq 915) 3 rfl) (aw_if (by decide)) (aw_wk (K _ _ _ _ _ _ w1) (by omega) (fun _ _ _ _ w => w))
theorem lc_counted {L : Nat} {xs : Nat → Int32} {s : az_S} {gl : Nat → Nat → Int64} {gd : Nat → Nat → UInt64} {N : Nat} {Q : Option Value ⊕ Nat → az_S → (Nat → Nat → Int64) → (Nat → Nat → UInt64) → Prop} {i : Nat} {o6 o7 o8 : Option Value} {h : Nat} (H : zyS s h) (hh : h + 10 ≤ 10000) (hL : i + 5 ≤ L ∧ L < 2147483648) (K : ∀ t gl2 gd2 o6 o7 o8, zyS t (h + 10) → aw_R L xs 14 am_m_L_law 2747 (al i o6 o7 o8) [] t gl2 gd2 N Q) : aw_R L xs 14 am_m_L_law 1837 (al i o6 o7 o8) [] s gl gd (N + 1) Q := by
  have hK : ∀ q, q ∈ ([(1837, .aload_n 1, 1), (1838, .invokevirtual 235, 3), (1841, .aload_n 2, 1), (1842, .invokevirtual 238, 3), (1845, .if_icmp .eq 902, 3)] : List (Nat × Instr × Nat)) → am_find q.1 am_c_L_law = some q.2 := by decide +kernel
  refine aw_s 1838 (al i o6 o7 o8) (List.map az_e [az_r 0]) (aw_n hK 0 1837 (.aload_n 1) 1 rfl) rfl ?_
  refine aw_c (d := 13) 1841 (st := [az_r 0]) (aw_n hK 1 1838 (.invokevirtual 235) 3 rfl) rfl rfl (az_deep (zc_counted H hh) (by decide)) (fun v t q => ?_) (fun E t q => (awP_0 q).elim)
  obtain ⟨v0, rfl, q2⟩ := awP_v (k := 0) q
  refine aw_s 1842 (al i o6 o7 o8) (List.map az_e [az_r 34, az_i v0]) (aw_n hK 2 1841 (.aload_n 2) 1 rfl) rfl ?_
  refine aw_c (d := 13) 1845 (st := [az_r 34, az_i v0]) (aw_n hK 3 1842 (.invokevirtual 238) 3 rfl) rfl rfl (az_deep q2 (by decide)) (fun v t2 w => ?_) (fun E t2 w => by cases w.2.2)
  obtain ⟨w1, w2, w3⟩ := w
  cases w3
  exact aw_s 2747 (al i o6 o7 o8) [] (aw_n hK 4 1845 (.if_icmp .eq 902) 3 rfl) (aw_if (by decide)) (aw_wk (K _ _ _ _ _ _ w1) (by omega) (fun _ _ _ _ w => w))
theorem lc_countedAgain {L : Nat} {xs : Nat → Int32} {s : az_S} {gl : Nat → Nat → Int64} {gd : Nat → Nat → UInt64} {N : Nat} {Q : Option Value ⊕ Nat → az_S → (Nat → Nat → Int64) → (Nat → Nat → UInt64) → Prop} {i : Nat} {o6 o7 o8 : Option Value} {h : Nat} (H : zyS s h) (hh : h + 10 ≤ 10000) (hL : i + 5 ≤ L ∧ L < 2147483648) (K : ∀ t gl2 gd2 o6 o7 o8, zyS t (h + 10) → aw_R L xs 14 am_m_L_law 2747 (al i o6 o7 o8) [] t gl2 gd2 N Q) : aw_R L xs 14 am_m_L_law 1850 (al i o6 o7 o8) [] s gl gd (N + 1) Q := by
  have hK : ∀ q, q ∈ ([(1850, .aload_n 1, 1), (1851, .invokevirtual 239, 3), (1854, .aload_n 2, 1), (1855, .invokevirtual 242, 3), (1858, .if_icmp .eq 889, 3)] : List (Nat × Instr × Nat)) → am_find q.1 am_c_L_law = some q.2 := by decide +kernel
  refine aw_s 1851 (al i o6 o7 o8) (List.map az_e [az_r 0]) (aw_n hK 0 1850 (.aload_n 1) 1 rfl) rfl ?_
  refine aw_c (d := 13) 1854 (st := [az_r 0]) (aw_n hK 1 1851 (.invokevirtual 239) 3 rfl) rfl rfl (az_deep (zc_countedAgain H hh) (by decide)) (fun v t q => ?_) (fun E t q => (awP_0 q).elim)
  obtain ⟨v0, rfl, q2⟩ := awP_v (k := 0) q
  refine aw_s 1855 (al i o6 o7 o8) (List.map az_e [az_r 34, az_i v0]) (aw_n hK 2 1854 (.aload_n 2) 1 rfl) rfl ?_
  refine aw_c (d := 13) 1858 (st := [az_r 34, az_i v0]) (aw_n hK 3 1855 (.invokevirtual 242) 3 rfl) rfl rfl (az_deep q2 (by decide)) (fun v t2 w => ?_) (fun E t2 w => by cases w.2.2)
  obtain ⟨w1, w2, w3⟩ := w
  cases w3
  exact aw_s 2747 (al i o6 o7 o8) [] (aw_n hK 4 1858 (.if_icmp .eq 889) 3 rfl) (aw_if (by decide)) (aw_wk (K _ _ _ _ _ _ w1) (by omega) (fun _ _ _ _ w => w))
theorem lc_isGeneral {L : Nat} {xs : Nat → Int32} {s : az_S} {gl : Nat → Nat → Int64} {gd : Nat → Nat → UInt64} {N : Nat} {Q : Option Value ⊕ Nat → az_S → (Nat → Nat → Int64) → (Nat → Nat → UInt64) → Prop} {i : Nat} {o6 o7 o8 : Option Value} {h : Nat} (H : zyS s h) (hh : h + 10 ≤ 10000) (hL : i + 5 ≤ L ∧ L < 2147483648) (K : ∀ t gl2 gd2 o6 o7 o8, zyS t (h + 10) → aw_R L xs 14 am_m_L_law 2747 (al i o6 o7 o8) [] t gl2 gd2 N Q) : aw_R L xs 14 am_m_L_law 1863 (al i o6 o7 o8) [] s gl gd (N + 1) Q := by
  have hK : ∀ q, q ∈ ([(1863, .aload_n 1, 1), (1864, .invokevirtual 243, 3), (1867, .aload_n 2, 1), (1868, .invokevirtual 247, 3), (1871, .if_icmp .eq 876, 3)] : List (Nat × Instr × Nat)) → am_find q.1 am_c_L_law = some q.2 := by decide +kernel
  refine aw_s 1864 (al i o6 o7 o8) (List.map az_e [az_r 0]) (aw_n hK 0 1863 (.aload_n 1) 1 rfl) rfl ?_
  refine aw_c (d := 13) 1867 (st := [az_r 0]) (aw_n hK 1 1864 (.invokevirtual 243) 3 rfl) rfl rfl (az_deep (zc_isGeneral H hh) (by decide)) (fun v t q => ?_) (fun E t q => (awP_0 q).elim)
  obtain ⟨v0, rfl, q2⟩ := awP_v (k := 0) q
  refine aw_s 1868 (al i o6 o7 o8) (List.map az_e [az_r 34, az_i v0]) (aw_n hK 2 1867 (.aload_n 2) 1 rfl) rfl ?_
  refine aw_c (d := 13) 1871 (st := [az_r 34, az_i v0]) (aw_n hK 3 1868 (.invokevirtual 247) 3 rfl) rfl rfl (az_deep q2 (by decide)) (fun v t2 w => ?_) (fun E t2 w => by cases w.2.2)
  obtain ⟨w1, w2, w3⟩ := w
  cases w3
  exact aw_s 2747 (al i o6 o7 o8) [] (aw_n hK 4 1871 (.if_icmp .eq 876) 3 rfl) (aw_if (by decide)) (aw_wk (K _ _ _ _ _ _ w1) (by omega) (fun _ _ _ _ w => w))
theorem lc_richest {L : Nat} {xs : Nat → Int32} {s : az_S} {gl : Nat → Nat → Int64} {gd : Nat → Nat → UInt64} {N : Nat} {Q : Option Value ⊕ Nat → az_S → (Nat → Nat → Int64) → (Nat → Nat → UInt64) → Prop} {i : Nat} {o6 o7 o8 : Option Value} {h : Nat} (H : zyS s h) (hh : h + 10 ≤ 10000) (hL : i + 5 ≤ L ∧ L < 2147483648) (K : ∀ t gl2 gd2 o6 o7 o8, zyS t (h + 10) → aw_R L xs 14 am_m_L_law 2747 (al i o6 o7 o8) [] t gl2 gd2 N Q) : aw_R L xs 14 am_m_L_law 1876 (al i o6 o7 o8) [] s gl gd (N + 1) Q := by
  have hK : ∀ q, q ∈ ([(1876, .aload_n 1, 1), (1877, .aload_n 0, 1), (1878, .iload 5, 2), (1880, .iconst 1, 1), (1881, .iadd, 1), (1882, .iaload, 1), (1883, .aload_n 3, 1), (1884, .invokestatic 248, 3), (1887, .istore 6, 2), (1889, .aload_n 2, 1), (1890, .aload_n 0, 1), (1891, .iload 5, 2), (1893, .iconst 1, 1), (1894, .iadd, 1), (1895, .iaload, 1), (1896, .invokevirtual 250, 3)] : List (Nat × Instr × Nat)) → am_find q.1 am_c_L_law = some q.2 := by decide +kernel
  refine aw_s 1877 (al i o6 o7 o8) (List.map az_e [az_r 0]) (aw_n hK 0 1876 (.aload_n 1) 1 rfl) rfl ?_
  refine aw_ai (p := 1877) (j := 1) (aw_n hK 1 1877 (.aload_n 0) 1 rfl) (aw_n hK 2 1878 (.iload 5) 2 rfl) (aw_n hK 3 1880 (.iconst 1) 1 rfl) (aw_n hK 4 1881 (.iadd) 1 rfl) (aw_n hK 5 1882 (.iaload) 1 rfl) ⟨by omega, hL.2⟩ ?_
  refine aw_s 1884 (al i o6 o7 o8) (List.map az_e [az_r 43, az_i (xs (i + 1)).toInt, az_r 0]) (aw_n hK 6 1883 (.aload_n 3) 1 rfl) rfl ?_
  refine aw_w (d := 13) (N1 := 1) (N2 := N) 1887 (st := [az_r 43, az_i (xs (i + 1)).toInt, az_r 0]) (aw_n hK 7 1884 (.invokestatic 248) 3 rfl) rfl rfl (by omega) (wl_richest (zc_richest H hh aw_x)) (fun v t gl2 gd2 q => ?_) (fun E t gl2 gd2 q => by obtain ⟨_, k, _, w, _⟩ := q; cases w)
  obtain ⟨rfl, k, hk, e, q⟩ := q
  cases e
  refine aw_s 1889 (al i (some (az_e (az_i ((k : Nat) : Int)))) o7 o8) [] (aw_n hK 8 1887 (.istore 6) 2 rfl) rfl ?_
  refine aw_s 1890 (al i (some (az_e (az_i ((k : Nat) : Int)))) o7 o8) (List.map az_e [az_r 34]) (aw_n hK 9 1889 (.aload_n 2) 1 rfl) rfl ?_
  refine aw_ai (p := 1890) (j := 1) (aw_n hK 10 1890 (.aload_n 0) 1 rfl) (aw_n hK 11 1891 (.iload 5) 2 rfl) (aw_n hK 12 1893 (.iconst 1) 1 rfl) (aw_n hK 13 1894 (.iadd) 1 rfl) (aw_n hK 14 1895 (.iaload) 1 rfl) ⟨by omega, hL.2⟩ ?_
  refine aw_c (d := 13) 1899 (st := [az_i (xs (i + 1)).toInt, az_r 34]) (aw_n hK 15 1896 (.invokevirtual 250) 3 rfl) rfl rfl (az_deep q (by decide)) (fun v t2 w => ?_) (fun E t2 w => by obtain ⟨_, _, _, w, _⟩ := w; cases w)
  obtain ⟨w1, w2, v2, w3, w4⟩ := w
  cases w3
  exact aw_tail (p := 1899) (off := 818) (by decide +kernel) (by decide) hk w2 w4 (fun o7 => K _ _ _ _ _ _ w1)
theorem lc_tired {L : Nat} {xs : Nat → Int32} {s : az_S} {gl : Nat → Nat → Int64} {gd : Nat → Nat → UInt64} {N : Nat} {Q : Option Value ⊕ Nat → az_S → (Nat → Nat → Int64) → (Nat → Nat → UInt64) → Prop} {i : Nat} {o6 o7 o8 : Option Value} {h : Nat} (H : zyS s h) (hh : h + 10 ≤ 10000) (hL : i + 5 ≤ L ∧ L < 2147483648) (K : ∀ t gl2 gd2 o6 o7 o8, zyS t (h + 10) → aw_R L xs 14 am_m_L_law 2747 (al i o6 o7 o8) [] t gl2 gd2 N Q) : aw_R L xs 14 am_m_L_law 1932 (al i o6 o7 o8) [] s gl gd (N + 1) Q := by
  have hK : ∀ q, q ∈ ([(1932, .aload_n 1, 1), (1933, .aload_n 0, 1), (1934, .iload 5, 2), (1936, .iconst 1, 1), (1937, .iadd, 1), (1938, .iaload, 1), (1939, .aload_n 3, 1), (1940, .invokestatic 251, 3), (1943, .istore 6, 2), (1945, .aload_n 2, 1), (1946, .aload_n 0, 1), (1947, .iload 5, 2), (1949, .iconst 1, 1), (1950, .iadd, 1), (1951, .iaload, 1), (1952, .invokevirtual 253, 3)] : List (Nat × Instr × Nat)) → am_find q.1 am_c_L_law = some q.2 := by decide +kernel
  refine aw_s 1933 (al i o6 o7 o8) (List.map az_e [az_r 0]) (aw_n hK 0 1932 (.aload_n 1) 1 rfl) rfl ?_
  refine aw_ai (p := 1933) (j := 1) (aw_n hK 1 1933 (.aload_n 0) 1 rfl) (aw_n hK 2 1934 (.iload 5) 2 rfl) (aw_n hK 3 1936 (.iconst 1) 1 rfl) (aw_n hK 4 1937 (.iadd) 1 rfl) (aw_n hK 5 1938 (.iaload) 1 rfl) ⟨by omega, hL.2⟩ ?_
  refine aw_s 1940 (al i o6 o7 o8) (List.map az_e [az_r 43, az_i (xs (i + 1)).toInt, az_r 0]) (aw_n hK 6 1939 (.aload_n 3) 1 rfl) rfl ?_
  refine aw_w (d := 13) (N1 := 1) (N2 := N) 1943 (st := [az_r 43, az_i (xs (i + 1)).toInt, az_r 0]) (aw_n hK 7 1940 (.invokestatic 251) 3 rfl) rfl rfl (by omega) (wl_tired (zc_tired H hh aw_x)) (fun v t gl2 gd2 q => ?_) (fun E t gl2 gd2 q => by obtain ⟨_, k, _, w, _⟩ := q; cases w)
  obtain ⟨rfl, k, hk, e, q⟩ := q
  cases e
  refine aw_s 1945 (al i (some (az_e (az_i ((k : Nat) : Int)))) o7 o8) [] (aw_n hK 8 1943 (.istore 6) 2 rfl) rfl ?_
  refine aw_s 1946 (al i (some (az_e (az_i ((k : Nat) : Int)))) o7 o8) (List.map az_e [az_r 34]) (aw_n hK 9 1945 (.aload_n 2) 1 rfl) rfl ?_
  refine aw_ai (p := 1946) (j := 1) (aw_n hK 10 1946 (.aload_n 0) 1 rfl) (aw_n hK 11 1947 (.iload 5) 2 rfl) (aw_n hK 12 1949 (.iconst 1) 1 rfl) (aw_n hK 13 1950 (.iadd) 1 rfl) (aw_n hK 14 1951 (.iaload) 1 rfl) ⟨by omega, hL.2⟩ ?_
  refine aw_c (d := 13) 1955 (st := [az_i (xs (i + 1)).toInt, az_r 34]) (aw_n hK 15 1952 (.invokevirtual 253) 3 rfl) rfl rfl (az_deep q (by decide)) (fun v t2 w => ?_) (fun E t2 w => by obtain ⟨_, _, _, w, _⟩ := w; cases w)
  obtain ⟨w1, w2, v2, w3, w4⟩ := w
  cases w3
  exact aw_tail (p := 1955) (off := 762) (by decide +kernel) (by decide) hk w2 w4 (fun o7 => K _ _ _ _ _ _ w1)
theorem lc_next {L : Nat} {xs : Nat → Int32} {s : az_S} {gl : Nat → Nat → Int64} {gd : Nat → Nat → UInt64} {N : Nat} {Q : Option Value ⊕ Nat → az_S → (Nat → Nat → Int64) → (Nat → Nat → UInt64) → Prop} {i : Nat} {o6 o7 o8 : Option Value} {h : Nat} (H : zyS s h) (hh : h + 10 ≤ 10000) (hL : i + 5 ≤ L ∧ L < 2147483648) (K : ∀ t gl2 gd2 o6 o7 o8, zyS t (h + 10) → aw_R L xs 14 am_m_L_law 2747 (al i o6 o7 o8) [] t gl2 gd2 N Q) : aw_R L xs 14 am_m_L_law 1988 (al i o6 o7 o8) [] s gl gd (N + 1) Q := by
  have hK : ∀ q, q ∈ ([(1988, .aload_n 1, 1), (1989, .aload_n 3, 1), (1990, .invokestatic 254, 3), (1993, .istore 6, 2), (1995, .aload_n 2, 1), (1996, .invokevirtual 256, 3)] : List (Nat × Instr × Nat)) → am_find q.1 am_c_L_law = some q.2 := by decide +kernel
  refine aw_s 1989 (al i o6 o7 o8) (List.map az_e [az_r 0]) (aw_n hK 0 1988 (.aload_n 1) 1 rfl) rfl ?_
  refine aw_s 1990 (al i o6 o7 o8) (List.map az_e [az_r 43, az_r 0]) (aw_n hK 1 1989 (.aload_n 3) 1 rfl) rfl ?_
  refine aw_w (d := 13) (N1 := 1) (N2 := N) 1993 (st := [az_r 43, az_r 0]) (aw_n hK 2 1990 (.invokestatic 254) 3 rfl) rfl rfl (by omega) (wl_next (zc_next H hh)) (fun v t gl2 gd2 q => ?_) (fun E t gl2 gd2 q => by obtain ⟨_, k, _, w, _⟩ := q; cases w)
  obtain ⟨rfl, k, hk, e, q⟩ := q
  cases e
  refine aw_s 1995 (al i (some (az_e (az_i ((k : Nat) : Int)))) o7 o8) [] (aw_n hK 3 1993 (.istore 6) 2 rfl) rfl ?_
  refine aw_s 1996 (al i (some (az_e (az_i ((k : Nat) : Int)))) o7 o8) (List.map az_e [az_r 34]) (aw_n hK 4 1995 (.aload_n 2) 1 rfl) rfl ?_
  refine aw_c (d := 13) 1999 (st := [az_r 34]) (aw_n hK 5 1996 (.invokevirtual 256) 3 rfl) rfl rfl (az_deep q (by decide)) (fun v t2 w => ?_) (fun E t2 w => by obtain ⟨_, _, _, w, _⟩ := w; cases w)
  obtain ⟨w1, w2, v2, w3, w4⟩ := w
  cases w3
  exact aw_tail (p := 1999) (off := 718) (by decide +kernel) (by decide) hk w2 w4 (fun o7 => K _ _ _ _ _ _ w1)
theorem lc_isWell {L : Nat} {xs : Nat → Int32} {s : az_S} {gl : Nat → Nat → Int64} {gd : Nat → Nat → UInt64} {N : Nat} {Q : Option Value ⊕ Nat → az_S → (Nat → Nat → Int64) → (Nat → Nat → UInt64) → Prop} {i : Nat} {o6 o7 o8 : Option Value} {h : Nat} (H : zyS s h) (hh : h + 10 ≤ 10000) (hL : i + 5 ≤ L ∧ L < 2147483648) (K : ∀ t gl2 gd2 o6 o7 o8, zyS t (h + 10) → aw_R L xs 14 am_m_L_law 2747 (al i o6 o7 o8) [] t gl2 gd2 N Q) : aw_R L xs 14 am_m_L_law 2032 (al i o6 o7 o8) [] s gl gd (N + 1) Q := by
  have hK : ∀ q, q ∈ ([(2032, .aload_n 1, 1), (2033, .invokevirtual 257, 3), (2036, .aload_n 2, 1), (2037, .invokevirtual 260, 3), (2040, .if_icmp .eq 707, 3)] : List (Nat × Instr × Nat)) → am_find q.1 am_c_L_law = some q.2 := by decide +kernel
  refine aw_s 2033 (al i o6 o7 o8) (List.map az_e [az_r 0]) (aw_n hK 0 2032 (.aload_n 1) 1 rfl) rfl ?_
  refine aw_c (d := 13) 2036 (st := [az_r 0]) (aw_n hK 1 2033 (.invokevirtual 257) 3 rfl) rfl rfl (az_deep (zc_isWell H hh) (by decide)) (fun v t q => ?_) (fun E t q => (awP_0 q).elim)
  obtain ⟨v0, rfl, q2⟩ := awP_v (k := 0) q
  refine aw_s 2037 (al i o6 o7 o8) (List.map az_e [az_r 34, az_i v0]) (aw_n hK 2 2036 (.aload_n 2) 1 rfl) rfl ?_
  refine aw_c (d := 13) 2040 (st := [az_r 34, az_i v0]) (aw_n hK 3 2037 (.invokevirtual 260) 3 rfl) rfl rfl (az_deep q2 (by decide)) (fun v t2 w => ?_) (fun E t2 w => by cases w.2.2)
  obtain ⟨w1, w2, w3⟩ := w
  cases w3
  exact aw_s 2747 (al i o6 o7 o8) [] (aw_n hK 4 2040 (.if_icmp .eq 707) 3 rfl) (aw_if (by decide)) (aw_wk (K _ _ _ _ _ _ w1) (by omega) (fun _ _ _ _ w => w))
theorem lc_type {L : Nat} {xs : Nat → Int32} {s : az_S} {gl : Nat → Nat → Int64} {gd : Nat → Nat → UInt64} {N : Nat} {Q : Option Value ⊕ Nat → az_S → (Nat → Nat → Int64) → (Nat → Nat → UInt64) → Prop} {i : Nat} {o6 o7 o8 : Option Value} {h : Nat} (H : zyS s h) (hh : h + 10 ≤ 10000) (hL : i + 5 ≤ L ∧ L < 2147483648) (K : ∀ t gl2 gd2 o6 o7 o8, zyS t (h + 10) → aw_R L xs 14 am_m_L_law 2747 (al i o6 o7 o8) [] t gl2 gd2 N Q) : aw_R L xs 14 am_m_L_law 2045 (al i o6 o7 o8) [] s gl gd (N + 1) Q := by
  have hK : ∀ q, q ∈ ([(2045, .aload_n 1, 1), (2046, .aload_n 0, 1), (2047, .iload 5, 2), (2049, .iconst 1, 1), (2050, .iadd, 1), (2051, .iaload, 1), (2052, .i2c, 1), (2053, .aload_n 3, 1), (2054, .invokestatic 261, 3), (2057, .istore 6, 2), (2059, .aload_n 2, 1), (2060, .aload_n 0, 1), (2061, .iload 5, 2), (2063, .iconst 1, 1), (2064, .iadd, 1), (2065, .iaload, 1), (2066, .i2c, 1), (2067, .invokevirtual 264, 3)] : List (Nat × Instr × Nat)) → am_find q.1 am_c_L_law = some q.2 := by decide +kernel
  refine aw_s 2046 (al i o6 o7 o8) (List.map az_e [az_r 0]) (aw_n hK 0 2045 (.aload_n 1) 1 rfl) rfl ?_
  refine aw_ai (p := 2046) (j := 1) (aw_n hK 1 2046 (.aload_n 0) 1 rfl) (aw_n hK 2 2047 (.iload 5) 2 rfl) (aw_n hK 3 2049 (.iconst 1) 1 rfl) (aw_n hK 4 2050 (.iadd) 1 rfl) (aw_n hK 5 2051 (.iaload) 1 rfl) ⟨by omega, hL.2⟩ ?_
  refine aw_ch (p := 2052) (aw_n hK 6 2052 (.i2c) 1 rfl) ?_
  refine aw_s 2054 (al i o6 o7 o8) (List.map az_e [az_r 43, az_i ((xs (i + 1)).toInt % 65536), az_r 0]) (aw_n hK 7 2053 (.aload_n 3) 1 rfl) rfl ?_
  refine aw_w (d := 13) (N1 := 1) (N2 := N) 2057 (st := [az_r 43, az_i ((xs (i + 1)).toInt % 65536), az_r 0]) (aw_n hK 8 2054 (.invokestatic 261) 3 rfl) rfl rfl (by omega) (wl_type (zc_type H hh ⟨Int.emod_nonneg _ (by decide), Int.emod_lt_of_pos _ (by decide)⟩)) (fun v t gl2 gd2 q => ?_) (fun E t gl2 gd2 q => by obtain ⟨_, k, _, w, _⟩ := q; cases w)
  obtain ⟨rfl, k, hk, e, q⟩ := q
  cases e
  refine aw_s 2059 (al i (some (az_e (az_i ((k : Nat) : Int)))) o7 o8) [] (aw_n hK 9 2057 (.istore 6) 2 rfl) rfl ?_
  refine aw_s 2060 (al i (some (az_e (az_i ((k : Nat) : Int)))) o7 o8) (List.map az_e [az_r 34]) (aw_n hK 10 2059 (.aload_n 2) 1 rfl) rfl ?_
  refine aw_ai (p := 2060) (j := 1) (aw_n hK 11 2060 (.aload_n 0) 1 rfl) (aw_n hK 12 2061 (.iload 5) 2 rfl) (aw_n hK 13 2063 (.iconst 1) 1 rfl) (aw_n hK 14 2064 (.iadd) 1 rfl) (aw_n hK 15 2065 (.iaload) 1 rfl) ⟨by omega, hL.2⟩ ?_
  refine aw_ch (p := 2066) (aw_n hK 16 2066 (.i2c) 1 rfl) ?_
  refine aw_c (d := 13) 2070 (st := [az_i ((xs (i + 1)).toInt % 65536), az_r 34]) (aw_n hK 17 2067 (.invokevirtual 264) 3 rfl) rfl rfl (az_deep q (by decide)) (fun v t2 w => ?_) (fun E t2 w => by obtain ⟨_, _, _, w, _⟩ := w; cases w)
  obtain ⟨w1, w2, v2, w3, w4⟩ := w
  cases w3
  exact aw_tail (p := 2070) (off := 647) (by decide +kernel) (by decide) hk w2 w4 (fun o7 => K _ _ _ _ _ _ w1)
theorem lc_read {L : Nat} {xs : Nat → Int32} {s : az_S} {gl : Nat → Nat → Int64} {gd : Nat → Nat → UInt64} {N : Nat} {Q : Option Value ⊕ Nat → az_S → (Nat → Nat → Int64) → (Nat → Nat → UInt64) → Prop} {i : Nat} {o6 o7 o8 : Option Value} {h : Nat} (H : zyS s h) (hh : h + 10 ≤ 10000) (hL : i + 5 ≤ L ∧ L < 2147483648) (K : ∀ t gl2 gd2 o6 o7 o8, zyS t (h + 10) → aw_R L xs 14 am_m_L_law 2747 (al i o6 o7 o8) [] t gl2 gd2 N Q) : aw_R L xs 14 am_m_L_law 2103 (al i o6 o7 o8) [] s gl gd (N + 1) Q := by
  have hK : ∀ q, q ∈ ([(2103, .aload_n 1, 1), (2104, .aload_n 3, 1), (2105, .invokestatic 265, 3), (2108, .istore 6, 2), (2110, .aload_n 2, 1), (2111, .invokevirtual 267, 3)] : List (Nat × Instr × Nat)) → am_find q.1 am_c_L_law = some q.2 := by decide +kernel
  refine aw_s 2104 (al i o6 o7 o8) (List.map az_e [az_r 0]) (aw_n hK 0 2103 (.aload_n 1) 1 rfl) rfl ?_
  refine aw_s 2105 (al i o6 o7 o8) (List.map az_e [az_r 43, az_r 0]) (aw_n hK 1 2104 (.aload_n 3) 1 rfl) rfl ?_
  refine aw_w (d := 13) (N1 := 1) (N2 := N) 2108 (st := [az_r 43, az_r 0]) (aw_n hK 2 2105 (.invokestatic 265) 3 rfl) rfl rfl (by omega) (wl_read (zc_read H hh)) (fun v t gl2 gd2 q => ?_) (fun E t gl2 gd2 q => by obtain ⟨_, k, _, w, _⟩ := q; cases w)
  obtain ⟨rfl, k, hk, e, q⟩ := q
  cases e
  refine aw_s 2110 (al i (some (az_e (az_i ((k : Nat) : Int)))) o7 o8) [] (aw_n hK 3 2108 (.istore 6) 2 rfl) rfl ?_
  refine aw_s 2111 (al i (some (az_e (az_i ((k : Nat) : Int)))) o7 o8) (List.map az_e [az_r 34]) (aw_n hK 4 2110 (.aload_n 2) 1 rfl) rfl ?_
  refine aw_c (d := 13) 2114 (st := [az_r 34]) (aw_n hK 5 2111 (.invokevirtual 267) 3 rfl) rfl rfl (az_deep q (by decide)) (fun v t2 w => ?_) (fun E t2 w => by obtain ⟨_, _, _, w, _⟩ := w; cases w)
  obtain ⟨w1, w2, v2, w3, w4⟩ := w
  cases w3
  exact aw_tail (p := 2114) (off := 603) (by decide +kernel) (by decide) hk w2 w4 (fun o7 => K _ _ _ _ _ _ w1)
theorem lc_errorPosition {L : Nat} {xs : Nat → Int32} {s : az_S} {gl : Nat → Nat → Int64} {gd : Nat → Nat → UInt64} {N : Nat} {Q : Option Value ⊕ Nat → az_S → (Nat → Nat → Int64) → (Nat → Nat → UInt64) → Prop} {i : Nat} {o6 o7 o8 : Option Value} {h : Nat} (H : zyS s h) (hh : h + 10 ≤ 10000) (hL : i + 5 ≤ L ∧ L < 2147483648) (K : ∀ t gl2 gd2 o6 o7 o8, zyS t (h + 10) → aw_R L xs 14 am_m_L_law 2747 (al i o6 o7 o8) [] t gl2 gd2 N Q) : aw_R L xs 14 am_m_L_law 2147 (al i o6 o7 o8) [] s gl gd (N + 1) Q := by
  have hK : ∀ q, q ∈ ([(2147, .aload_n 1, 1), (2148, .aload_n 3, 1), (2149, .invokestatic 268, 3), (2152, .istore 6, 2), (2154, .aload_n 2, 1), (2155, .invokevirtual 270, 3)] : List (Nat × Instr × Nat)) → am_find q.1 am_c_L_law = some q.2 := by decide +kernel
  refine aw_s 2148 (al i o6 o7 o8) (List.map az_e [az_r 0]) (aw_n hK 0 2147 (.aload_n 1) 1 rfl) rfl ?_
  refine aw_s 2149 (al i o6 o7 o8) (List.map az_e [az_r 43, az_r 0]) (aw_n hK 1 2148 (.aload_n 3) 1 rfl) rfl ?_
  refine aw_w (d := 13) (N1 := 1) (N2 := N) 2152 (st := [az_r 43, az_r 0]) (aw_n hK 2 2149 (.invokestatic 268) 3 rfl) rfl rfl (by omega) (wl_errorPosition (zc_errorPosition H hh)) (fun v t gl2 gd2 q => ?_) (fun E t gl2 gd2 q => by obtain ⟨_, k, _, w, _⟩ := q; cases w)
  obtain ⟨rfl, k, hk, e, q⟩ := q
  cases e
  refine aw_s 2154 (al i (some (az_e (az_i ((k : Nat) : Int)))) o7 o8) [] (aw_n hK 3 2152 (.istore 6) 2 rfl) rfl ?_
  refine aw_s 2155 (al i (some (az_e (az_i ((k : Nat) : Int)))) o7 o8) (List.map az_e [az_r 34]) (aw_n hK 4 2154 (.aload_n 2) 1 rfl) rfl ?_
  refine aw_c (d := 13) 2158 (st := [az_r 34]) (aw_n hK 5 2155 (.invokevirtual 270) 3 rfl) rfl rfl (az_deep q (by decide)) (fun v t2 w => ?_) (fun E t2 w => by obtain ⟨_, _, _, w, _⟩ := w; cases w)
  obtain ⟨w1, w2, v2, w3, w4⟩ := w
  cases w3
  exact aw_tail (p := 2158) (off := 559) (by decide +kernel) (by decide) hk w2 w4 (fun o7 => K _ _ _ _ _ _ w1)
theorem lc_refusal {L : Nat} {xs : Nat → Int32} {s : az_S} {gl : Nat → Nat → Int64} {gd : Nat → Nat → UInt64} {N : Nat} {Q : Option Value ⊕ Nat → az_S → (Nat → Nat → Int64) → (Nat → Nat → UInt64) → Prop} {i : Nat} {o6 o7 o8 : Option Value} {h : Nat} (H : zyS s h) (hh : h + 10 ≤ 10000) (hL : i + 5 ≤ L ∧ L < 2147483648) (K : ∀ t gl2 gd2 o6 o7 o8, zyS t (h + 10) → aw_R L xs 14 am_m_L_law 2747 (al i o6 o7 o8) [] t gl2 gd2 N Q) : aw_R L xs 14 am_m_L_law 2191 (al i o6 o7 o8) [] s gl gd (N + 1) Q := by
  have hK : ∀ q, q ∈ ([(2191, .aload_n 1, 1), (2192, .aload_n 0, 1), (2193, .iload 5, 2), (2195, .iconst 1, 1), (2196, .iadd, 1), (2197, .iaload, 1), (2198, .ifCond .eq 7, 3), (2205, .iconst 0, 1), (2206, .aload_n 0, 1), (2207, .iload 5, 2), (2209, .iconst 2, 1), (2210, .iadd, 1), (2211, .iaload, 1), (2212, .ifCond .eq 7, 3), (2219, .iconst 0, 1), (2220, .aload_n 3, 1), (2221, .invokestatic 271, 3), (2224, .istore 6, 2), (2226, .aload_n 2, 1), (2227, .aload_n 0, 1), (2228, .iload 5, 2), (2230, .iconst 1, 1), (2231, .iadd, 1), (2232, .iaload, 1), (2233, .ifCond .eq 7, 3), (2240, .iconst 0, 1), (2241, .aload_n 0, 1), (2242, .iload 5, 2), (2244, .iconst 2, 1), (2245, .iadd, 1), (2246, .iaload, 1), (2247, .ifCond .eq 7, 3), (2254, .iconst 0, 1), (2255, .invokevirtual 274, 3), (2215, .iconst 1, 1), (2216, .goto 4, 3), (2250, .iconst 1, 1), (2251, .goto 4, 3), (2201, .iconst 1, 1), (2202, .goto 4, 3), (2236, .iconst 1, 1), (2237, .goto 4, 3)] : List (Nat × Instr × Nat)) → am_find q.1 am_c_L_law = some q.2 := by decide +kernel
  by_cases hx1 : (xs (i + 1)).toInt = 0
  · skip
    by_cases hx2 : (xs (i + 2)).toInt = 0
    · skip
      refine aw_s 2192 (al i o6 o7 o8) (List.map az_e [az_r 0]) (aw_n hK 0 2191 (.aload_n 1) 1 rfl) rfl ?_
      refine aw_ai (p := 2192) (j := 1) (aw_n hK 1 2192 (.aload_n 0) 1 rfl) (aw_n hK 2 2193 (.iload 5) 2 rfl) (aw_n hK 3 2195 (.iconst 1) 1 rfl) (aw_n hK 4 2196 (.iadd) 1 rfl) (aw_n hK 5 2197 (.iaload) 1 rfl) ⟨by omega, hL.2⟩ ?_
      refine aw_b0 (p := 2198) (aw_n hK 6 2198 (.ifCond .eq 7) 3 rfl) (aw_n hK 7 2205 (.iconst 0) 1 rfl) hx1 ?_
      refine aw_ai (p := 2206) (j := 2) (aw_n hK 8 2206 (.aload_n 0) 1 rfl) (aw_n hK 9 2207 (.iload 5) 2 rfl) (aw_n hK 10 2209 (.iconst 2) 1 rfl) (aw_n hK 11 2210 (.iadd) 1 rfl) (aw_n hK 12 2211 (.iaload) 1 rfl) ⟨by omega, hL.2⟩ ?_
      refine aw_b0 (p := 2212) (aw_n hK 13 2212 (.ifCond .eq 7) 3 rfl) (aw_n hK 14 2219 (.iconst 0) 1 rfl) hx2 ?_
      refine aw_s 2221 (al i o6 o7 o8) (List.map az_e [az_r 43, az_i 0, az_i 0, az_r 0]) (aw_n hK 15 2220 (.aload_n 3) 1 rfl) rfl ?_
      refine aw_w (d := 13) (N1 := 1) (N2 := N) 2224 (st := [az_r 43, az_i 0, az_i 0, az_r 0]) (aw_n hK 16 2221 (.invokestatic 271) 3 rfl) rfl rfl (by omega) (wl_refusal (zc_refusal_00 H hh)) (fun v t gl2 gd2 q => ?_) (fun E t gl2 gd2 q => by obtain ⟨_, k, _, w, _⟩ := q; cases w)
      obtain ⟨rfl, k, hk, e, q⟩ := q
      cases e
      refine aw_s 2226 (al i (some (az_e (az_i ((k : Nat) : Int)))) o7 o8) [] (aw_n hK 17 2224 (.istore 6) 2 rfl) rfl ?_
      refine aw_s 2227 (al i (some (az_e (az_i ((k : Nat) : Int)))) o7 o8) (List.map az_e [az_r 34]) (aw_n hK 18 2226 (.aload_n 2) 1 rfl) rfl ?_
      refine aw_ai (p := 2227) (j := 1) (aw_n hK 19 2227 (.aload_n 0) 1 rfl) (aw_n hK 20 2228 (.iload 5) 2 rfl) (aw_n hK 21 2230 (.iconst 1) 1 rfl) (aw_n hK 22 2231 (.iadd) 1 rfl) (aw_n hK 23 2232 (.iaload) 1 rfl) ⟨by omega, hL.2⟩ ?_
      refine aw_b0 (p := 2233) (aw_n hK 24 2233 (.ifCond .eq 7) 3 rfl) (aw_n hK 25 2240 (.iconst 0) 1 rfl) hx1 ?_
      refine aw_ai (p := 2241) (j := 2) (aw_n hK 26 2241 (.aload_n 0) 1 rfl) (aw_n hK 27 2242 (.iload 5) 2 rfl) (aw_n hK 28 2244 (.iconst 2) 1 rfl) (aw_n hK 29 2245 (.iadd) 1 rfl) (aw_n hK 30 2246 (.iaload) 1 rfl) ⟨by omega, hL.2⟩ ?_
      refine aw_b0 (p := 2247) (aw_n hK 31 2247 (.ifCond .eq 7) 3 rfl) (aw_n hK 32 2254 (.iconst 0) 1 rfl) hx2 ?_
      refine aw_c (d := 13) 2258 (st := [az_i 0, az_i 0, az_r 34]) (aw_n hK 33 2255 (.invokevirtual 274) 3 rfl) rfl rfl (az_deep q (by decide)) (fun v t2 w => ?_) (fun E t2 w => by obtain ⟨_, _, _, w, _⟩ := w; cases w)
      obtain ⟨w1, w2, v2, w3, w4⟩ := w
      cases w3
      exact aw_tail (p := 2258) (off := 459) (by decide +kernel) (by decide) hk w2 w4 (fun o7 => K _ _ _ _ _ _ w1)
    · skip
      refine aw_s 2192 (al i o6 o7 o8) (List.map az_e [az_r 0]) (aw_n hK 0 2191 (.aload_n 1) 1 rfl) rfl ?_
      refine aw_ai (p := 2192) (j := 1) (aw_n hK 1 2192 (.aload_n 0) 1 rfl) (aw_n hK 2 2193 (.iload 5) 2 rfl) (aw_n hK 3 2195 (.iconst 1) 1 rfl) (aw_n hK 4 2196 (.iadd) 1 rfl) (aw_n hK 5 2197 (.iaload) 1 rfl) ⟨by omega, hL.2⟩ ?_
      refine aw_b0 (p := 2198) (aw_n hK 6 2198 (.ifCond .eq 7) 3 rfl) (aw_n hK 7 2205 (.iconst 0) 1 rfl) hx1 ?_
      refine aw_ai (p := 2206) (j := 2) (aw_n hK 8 2206 (.aload_n 0) 1 rfl) (aw_n hK 9 2207 (.iload 5) 2 rfl) (aw_n hK 10 2209 (.iconst 2) 1 rfl) (aw_n hK 11 2210 (.iadd) 1 rfl) (aw_n hK 12 2211 (.iaload) 1 rfl) ⟨by omega, hL.2⟩ ?_
      refine aw_b1 (p := 2212) (aw_n hK 13 2212 (.ifCond .eq 7) 3 rfl) (aw_n hK 34 2215 (.iconst 1) 1 rfl) (aw_n hK 35 2216 (.goto 4) 3 rfl) ⟨aw_x, hx2⟩ ?_
      refine aw_s 2221 (al i o6 o7 o8) (List.map az_e [az_r 43, az_i 1, az_i 0, az_r 0]) (aw_n hK 15 2220 (.aload_n 3) 1 rfl) rfl ?_
      refine aw_w (d := 13) (N1 := 1) (N2 := N) 2224 (st := [az_r 43, az_i 1, az_i 0, az_r 0]) (aw_n hK 16 2221 (.invokestatic 271) 3 rfl) rfl rfl (by omega) (wl_refusal (zc_refusal_01 H hh)) (fun v t gl2 gd2 q => ?_) (fun E t gl2 gd2 q => by obtain ⟨_, k, _, w, _⟩ := q; cases w)
      obtain ⟨rfl, k, hk, e, q⟩ := q
      cases e
      refine aw_s 2226 (al i (some (az_e (az_i ((k : Nat) : Int)))) o7 o8) [] (aw_n hK 17 2224 (.istore 6) 2 rfl) rfl ?_
      refine aw_s 2227 (al i (some (az_e (az_i ((k : Nat) : Int)))) o7 o8) (List.map az_e [az_r 34]) (aw_n hK 18 2226 (.aload_n 2) 1 rfl) rfl ?_
      refine aw_ai (p := 2227) (j := 1) (aw_n hK 19 2227 (.aload_n 0) 1 rfl) (aw_n hK 20 2228 (.iload 5) 2 rfl) (aw_n hK 21 2230 (.iconst 1) 1 rfl) (aw_n hK 22 2231 (.iadd) 1 rfl) (aw_n hK 23 2232 (.iaload) 1 rfl) ⟨by omega, hL.2⟩ ?_
      refine aw_b0 (p := 2233) (aw_n hK 24 2233 (.ifCond .eq 7) 3 rfl) (aw_n hK 25 2240 (.iconst 0) 1 rfl) hx1 ?_
      refine aw_ai (p := 2241) (j := 2) (aw_n hK 26 2241 (.aload_n 0) 1 rfl) (aw_n hK 27 2242 (.iload 5) 2 rfl) (aw_n hK 28 2244 (.iconst 2) 1 rfl) (aw_n hK 29 2245 (.iadd) 1 rfl) (aw_n hK 30 2246 (.iaload) 1 rfl) ⟨by omega, hL.2⟩ ?_
      refine aw_b1 (p := 2247) (aw_n hK 31 2247 (.ifCond .eq 7) 3 rfl) (aw_n hK 36 2250 (.iconst 1) 1 rfl) (aw_n hK 37 2251 (.goto 4) 3 rfl) ⟨aw_x, hx2⟩ ?_
      refine aw_c (d := 13) 2258 (st := [az_i 1, az_i 0, az_r 34]) (aw_n hK 33 2255 (.invokevirtual 274) 3 rfl) rfl rfl (az_deep q (by decide)) (fun v t2 w => ?_) (fun E t2 w => by obtain ⟨_, _, _, w, _⟩ := w; cases w)
      obtain ⟨w1, w2, v2, w3, w4⟩ := w
      cases w3
      exact aw_tail (p := 2258) (off := 459) (by decide +kernel) (by decide) hk w2 w4 (fun o7 => K _ _ _ _ _ _ w1)
  · skip
    by_cases hx2 : (xs (i + 2)).toInt = 0
    · skip
      refine aw_s 2192 (al i o6 o7 o8) (List.map az_e [az_r 0]) (aw_n hK 0 2191 (.aload_n 1) 1 rfl) rfl ?_
      refine aw_ai (p := 2192) (j := 1) (aw_n hK 1 2192 (.aload_n 0) 1 rfl) (aw_n hK 2 2193 (.iload 5) 2 rfl) (aw_n hK 3 2195 (.iconst 1) 1 rfl) (aw_n hK 4 2196 (.iadd) 1 rfl) (aw_n hK 5 2197 (.iaload) 1 rfl) ⟨by omega, hL.2⟩ ?_
      refine aw_b1 (p := 2198) (aw_n hK 6 2198 (.ifCond .eq 7) 3 rfl) (aw_n hK 38 2201 (.iconst 1) 1 rfl) (aw_n hK 39 2202 (.goto 4) 3 rfl) ⟨aw_x, hx1⟩ ?_
      refine aw_ai (p := 2206) (j := 2) (aw_n hK 8 2206 (.aload_n 0) 1 rfl) (aw_n hK 9 2207 (.iload 5) 2 rfl) (aw_n hK 10 2209 (.iconst 2) 1 rfl) (aw_n hK 11 2210 (.iadd) 1 rfl) (aw_n hK 12 2211 (.iaload) 1 rfl) ⟨by omega, hL.2⟩ ?_
      refine aw_b0 (p := 2212) (aw_n hK 13 2212 (.ifCond .eq 7) 3 rfl) (aw_n hK 14 2219 (.iconst 0) 1 rfl) hx2 ?_
      refine aw_s 2221 (al i o6 o7 o8) (List.map az_e [az_r 43, az_i 0, az_i 1, az_r 0]) (aw_n hK 15 2220 (.aload_n 3) 1 rfl) rfl ?_
      refine aw_w (d := 13) (N1 := 1) (N2 := N) 2224 (st := [az_r 43, az_i 0, az_i 1, az_r 0]) (aw_n hK 16 2221 (.invokestatic 271) 3 rfl) rfl rfl (by omega) (wl_refusal (zc_refusal_10 H hh)) (fun v t gl2 gd2 q => ?_) (fun E t gl2 gd2 q => by obtain ⟨_, k, _, w, _⟩ := q; cases w)
      obtain ⟨rfl, k, hk, e, q⟩ := q
      cases e
      refine aw_s 2226 (al i (some (az_e (az_i ((k : Nat) : Int)))) o7 o8) [] (aw_n hK 17 2224 (.istore 6) 2 rfl) rfl ?_
      refine aw_s 2227 (al i (some (az_e (az_i ((k : Nat) : Int)))) o7 o8) (List.map az_e [az_r 34]) (aw_n hK 18 2226 (.aload_n 2) 1 rfl) rfl ?_
      refine aw_ai (p := 2227) (j := 1) (aw_n hK 19 2227 (.aload_n 0) 1 rfl) (aw_n hK 20 2228 (.iload 5) 2 rfl) (aw_n hK 21 2230 (.iconst 1) 1 rfl) (aw_n hK 22 2231 (.iadd) 1 rfl) (aw_n hK 23 2232 (.iaload) 1 rfl) ⟨by omega, hL.2⟩ ?_
      refine aw_b1 (p := 2233) (aw_n hK 24 2233 (.ifCond .eq 7) 3 rfl) (aw_n hK 40 2236 (.iconst 1) 1 rfl) (aw_n hK 41 2237 (.goto 4) 3 rfl) ⟨aw_x, hx1⟩ ?_
      refine aw_ai (p := 2241) (j := 2) (aw_n hK 26 2241 (.aload_n 0) 1 rfl) (aw_n hK 27 2242 (.iload 5) 2 rfl) (aw_n hK 28 2244 (.iconst 2) 1 rfl) (aw_n hK 29 2245 (.iadd) 1 rfl) (aw_n hK 30 2246 (.iaload) 1 rfl) ⟨by omega, hL.2⟩ ?_
      refine aw_b0 (p := 2247) (aw_n hK 31 2247 (.ifCond .eq 7) 3 rfl) (aw_n hK 32 2254 (.iconst 0) 1 rfl) hx2 ?_
      refine aw_c (d := 13) 2258 (st := [az_i 0, az_i 1, az_r 34]) (aw_n hK 33 2255 (.invokevirtual 274) 3 rfl) rfl rfl (az_deep q (by decide)) (fun v t2 w => ?_) (fun E t2 w => by obtain ⟨_, _, _, w, _⟩ := w; cases w)
      obtain ⟨w1, w2, v2, w3, w4⟩ := w
      cases w3
      exact aw_tail (p := 2258) (off := 459) (by decide +kernel) (by decide) hk w2 w4 (fun o7 => K _ _ _ _ _ _ w1)
    · skip
      refine aw_s 2192 (al i o6 o7 o8) (List.map az_e [az_r 0]) (aw_n hK 0 2191 (.aload_n 1) 1 rfl) rfl ?_
      refine aw_ai (p := 2192) (j := 1) (aw_n hK 1 2192 (.aload_n 0) 1 rfl) (aw_n hK 2 2193 (.iload 5) 2 rfl) (aw_n hK 3 2195 (.iconst 1) 1 rfl) (aw_n hK 4 2196 (.iadd) 1 rfl) (aw_n hK 5 2197 (.iaload) 1 rfl) ⟨by omega, hL.2⟩ ?_
      refine aw_b1 (p := 2198) (aw_n hK 6 2198 (.ifCond .eq 7) 3 rfl) (aw_n hK 38 2201 (.iconst 1) 1 rfl) (aw_n hK 39 2202 (.goto 4) 3 rfl) ⟨aw_x, hx1⟩ ?_
      refine aw_ai (p := 2206) (j := 2) (aw_n hK 8 2206 (.aload_n 0) 1 rfl) (aw_n hK 9 2207 (.iload 5) 2 rfl) (aw_n hK 10 2209 (.iconst 2) 1 rfl) (aw_n hK 11 2210 (.iadd) 1 rfl) (aw_n hK 12 2211 (.iaload) 1 rfl) ⟨by omega, hL.2⟩ ?_
      refine aw_b1 (p := 2212) (aw_n hK 13 2212 (.ifCond .eq 7) 3 rfl) (aw_n hK 34 2215 (.iconst 1) 1 rfl) (aw_n hK 35 2216 (.goto 4) 3 rfl) ⟨aw_x, hx2⟩ ?_
      refine aw_s 2221 (al i o6 o7 o8) (List.map az_e [az_r 43, az_i 1, az_i 1, az_r 0]) (aw_n hK 15 2220 (.aload_n 3) 1 rfl) rfl ?_
      refine aw_w (d := 13) (N1 := 1) (N2 := N) 2224 (st := [az_r 43, az_i 1, az_i 1, az_r 0]) (aw_n hK 16 2221 (.invokestatic 271) 3 rfl) rfl rfl (by omega) (wl_refusal (zc_refusal_11 H hh)) (fun v t gl2 gd2 q => ?_) (fun E t gl2 gd2 q => by obtain ⟨_, k, _, w, _⟩ := q; cases w)
      obtain ⟨rfl, k, hk, e, q⟩ := q
      cases e
      refine aw_s 2226 (al i (some (az_e (az_i ((k : Nat) : Int)))) o7 o8) [] (aw_n hK 17 2224 (.istore 6) 2 rfl) rfl ?_
      refine aw_s 2227 (al i (some (az_e (az_i ((k : Nat) : Int)))) o7 o8) (List.map az_e [az_r 34]) (aw_n hK 18 2226 (.aload_n 2) 1 rfl) rfl ?_
      refine aw_ai (p := 2227) (j := 1) (aw_n hK 19 2227 (.aload_n 0) 1 rfl) (aw_n hK 20 2228 (.iload 5) 2 rfl) (aw_n hK 21 2230 (.iconst 1) 1 rfl) (aw_n hK 22 2231 (.iadd) 1 rfl) (aw_n hK 23 2232 (.iaload) 1 rfl) ⟨by omega, hL.2⟩ ?_
      refine aw_b1 (p := 2233) (aw_n hK 24 2233 (.ifCond .eq 7) 3 rfl) (aw_n hK 40 2236 (.iconst 1) 1 rfl) (aw_n hK 41 2237 (.goto 4) 3 rfl) ⟨aw_x, hx1⟩ ?_
      refine aw_ai (p := 2241) (j := 2) (aw_n hK 26 2241 (.aload_n 0) 1 rfl) (aw_n hK 27 2242 (.iload 5) 2 rfl) (aw_n hK 28 2244 (.iconst 2) 1 rfl) (aw_n hK 29 2245 (.iadd) 1 rfl) (aw_n hK 30 2246 (.iaload) 1 rfl) ⟨by omega, hL.2⟩ ?_
      refine aw_b1 (p := 2247) (aw_n hK 31 2247 (.ifCond .eq 7) 3 rfl) (aw_n hK 36 2250 (.iconst 1) 1 rfl) (aw_n hK 37 2251 (.goto 4) 3 rfl) ⟨aw_x, hx2⟩ ?_
      refine aw_c (d := 13) 2258 (st := [az_i 1, az_i 1, az_r 34]) (aw_n hK 33 2255 (.invokevirtual 274) 3 rfl) rfl rfl (az_deep q (by decide)) (fun v t2 w => ?_) (fun E t2 w => by obtain ⟨_, _, _, w, _⟩ := w; cases w)
      obtain ⟨w1, w2, v2, w3, w4⟩ := w
      cases w3
      exact aw_tail (p := 2258) (off := 459) (by decide +kernel) (by decide) hk w2 w4 (fun o7 => K _ _ _ _ _ _ w1)
theorem lc_show {L : Nat} {xs : Nat → Int32} {s : az_S} {gl : Nat → Nat → Int64} {gd : Nat → Nat → UInt64} {N : Nat} {Q : Option Value ⊕ Nat → az_S → (Nat → Nat → Int64) → (Nat → Nat → UInt64) → Prop} {i : Nat} {o6 o7 o8 : Option Value} {h : Nat} (H : zyS s h) (hh : h + 10 ≤ 10000) (hL : i + 5 ≤ L ∧ L < 2147483648) (K : ∀ t gl2 gd2 o6 o7 o8, zyS t (h + 10) → aw_R L xs 14 am_m_L_law 2747 (al i o6 o7 o8) [] t gl2 gd2 N Q) : aw_R L xs 14 am_m_L_law 2291 (al i o6 o7 o8) [] s gl gd (N + 1) Q := by
  have hK : ∀ q, q ∈ ([(2291, .aload_n 1, 1), (2292, .aload_n 0, 1), (2293, .iload 5, 2), (2295, .iconst 1, 1), (2296, .iadd, 1), (2297, .iaload, 1), (2298, .aload_n 3, 1), (2299, .invokestatic 275, 3), (2302, .istore 6, 2), (2304, .aload_n 2, 1), (2305, .aload_n 0, 1), (2306, .iload 5, 2), (2308, .iconst 1, 1), (2309, .iadd, 1), (2310, .iaload, 1), (2311, .invokevirtual 277, 3)] : List (Nat × Instr × Nat)) → am_find q.1 am_c_L_law = some q.2 := by decide +kernel
  refine aw_s 2292 (al i o6 o7 o8) (List.map az_e [az_r 0]) (aw_n hK 0 2291 (.aload_n 1) 1 rfl) rfl ?_
  refine aw_ai (p := 2292) (j := 1) (aw_n hK 1 2292 (.aload_n 0) 1 rfl) (aw_n hK 2 2293 (.iload 5) 2 rfl) (aw_n hK 3 2295 (.iconst 1) 1 rfl) (aw_n hK 4 2296 (.iadd) 1 rfl) (aw_n hK 5 2297 (.iaload) 1 rfl) ⟨by omega, hL.2⟩ ?_
  refine aw_s 2299 (al i o6 o7 o8) (List.map az_e [az_r 43, az_i (xs (i + 1)).toInt, az_r 0]) (aw_n hK 6 2298 (.aload_n 3) 1 rfl) rfl ?_
  refine aw_w (d := 13) (N1 := 1) (N2 := N) 2302 (st := [az_r 43, az_i (xs (i + 1)).toInt, az_r 0]) (aw_n hK 7 2299 (.invokestatic 275) 3 rfl) rfl rfl (by omega) (wl_show (zc_show H hh aw_x)) (fun v t gl2 gd2 q => ?_) (fun E t gl2 gd2 q => by obtain ⟨_, k, _, w, _⟩ := q; cases w)
  obtain ⟨rfl, k, hk, e, q⟩ := q
  cases e
  refine aw_s 2304 (al i (some (az_e (az_i ((k : Nat) : Int)))) o7 o8) [] (aw_n hK 8 2302 (.istore 6) 2 rfl) rfl ?_
  refine aw_s 2305 (al i (some (az_e (az_i ((k : Nat) : Int)))) o7 o8) (List.map az_e [az_r 34]) (aw_n hK 9 2304 (.aload_n 2) 1 rfl) rfl ?_
  refine aw_ai (p := 2305) (j := 1) (aw_n hK 10 2305 (.aload_n 0) 1 rfl) (aw_n hK 11 2306 (.iload 5) 2 rfl) (aw_n hK 12 2308 (.iconst 1) 1 rfl) (aw_n hK 13 2309 (.iadd) 1 rfl) (aw_n hK 14 2310 (.iaload) 1 rfl) ⟨by omega, hL.2⟩ ?_
  refine aw_c (d := 13) 2314 (st := [az_i (xs (i + 1)).toInt, az_r 34]) (aw_n hK 15 2311 (.invokevirtual 277) 3 rfl) rfl rfl (az_deep q (by decide)) (fun v t2 w => ?_) (fun E t2 w => by obtain ⟨_, _, _, w, _⟩ := w; cases w)
  obtain ⟨w1, w2, v2, w3, w4⟩ := w
  cases w3
  exact aw_tail (p := 2314) (off := 403) (by decide +kernel) (by decide) hk w2 w4 (fun o7 => K _ _ _ _ _ _ w1)
theorem lc_tell {L : Nat} {xs : Nat → Int32} {s : az_S} {gl : Nat → Nat → Int64} {gd : Nat → Nat → UInt64} {N : Nat} {Q : Option Value ⊕ Nat → az_S → (Nat → Nat → Int64) → (Nat → Nat → UInt64) → Prop} {i : Nat} {o6 o7 o8 : Option Value} {h : Nat} (H : zyS s h) (hh : h + 10 ≤ 10000) (hL : i + 5 ≤ L ∧ L < 2147483648) (K : ∀ t gl2 gd2 o6 o7 o8, zyS t (h + 10) → aw_R L xs 14 am_m_L_law 2747 (al i o6 o7 o8) [] t gl2 gd2 N Q) : aw_R L xs 14 am_m_L_law 2347 (al i o6 o7 o8) [] s gl gd (N + 1) Q := by
  have hK : ∀ q, q ∈ ([(2347, .aload_n 1, 1), (2348, .aload_n 0, 1), (2349, .iload 5, 2), (2351, .iconst 1, 1), (2352, .iadd, 1), (2353, .iaload, 1), (2354, .aload_n 3, 1), (2355, .invokestatic 278, 3), (2358, .istore 6, 2), (2360, .aload_n 2, 1), (2361, .aload_n 0, 1), (2362, .iload 5, 2), (2364, .iconst 1, 1), (2365, .iadd, 1), (2366, .iaload, 1), (2367, .invokevirtual 280, 3)] : List (Nat × Instr × Nat)) → am_find q.1 am_c_L_law = some q.2 := by decide +kernel
  refine aw_s 2348 (al i o6 o7 o8) (List.map az_e [az_r 0]) (aw_n hK 0 2347 (.aload_n 1) 1 rfl) rfl ?_
  refine aw_ai (p := 2348) (j := 1) (aw_n hK 1 2348 (.aload_n 0) 1 rfl) (aw_n hK 2 2349 (.iload 5) 2 rfl) (aw_n hK 3 2351 (.iconst 1) 1 rfl) (aw_n hK 4 2352 (.iadd) 1 rfl) (aw_n hK 5 2353 (.iaload) 1 rfl) ⟨by omega, hL.2⟩ ?_
  refine aw_s 2355 (al i o6 o7 o8) (List.map az_e [az_r 43, az_i (xs (i + 1)).toInt, az_r 0]) (aw_n hK 6 2354 (.aload_n 3) 1 rfl) rfl ?_
  refine aw_w (d := 13) (N1 := 1) (N2 := N) 2358 (st := [az_r 43, az_i (xs (i + 1)).toInt, az_r 0]) (aw_n hK 7 2355 (.invokestatic 278) 3 rfl) rfl rfl (by omega) (wl_tell (zc_tell H hh aw_x)) (fun v t gl2 gd2 q => ?_) (fun E t gl2 gd2 q => by obtain ⟨_, k, _, w, _⟩ := q; cases w)
  obtain ⟨rfl, k, hk, e, q⟩ := q
  cases e
  refine aw_s 2360 (al i (some (az_e (az_i ((k : Nat) : Int)))) o7 o8) [] (aw_n hK 8 2358 (.istore 6) 2 rfl) rfl ?_
  refine aw_s 2361 (al i (some (az_e (az_i ((k : Nat) : Int)))) o7 o8) (List.map az_e [az_r 34]) (aw_n hK 9 2360 (.aload_n 2) 1 rfl) rfl ?_
  refine aw_ai (p := 2361) (j := 1) (aw_n hK 10 2361 (.aload_n 0) 1 rfl) (aw_n hK 11 2362 (.iload 5) 2 rfl) (aw_n hK 12 2364 (.iconst 1) 1 rfl) (aw_n hK 13 2365 (.iadd) 1 rfl) (aw_n hK 14 2366 (.iaload) 1 rfl) ⟨by omega, hL.2⟩ ?_
  refine aw_c (d := 13) 2370 (st := [az_i (xs (i + 1)).toInt, az_r 34]) (aw_n hK 15 2367 (.invokevirtual 280) 3 rfl) rfl rfl (az_deep q (by decide)) (fun v t2 w => ?_) (fun E t2 w => by obtain ⟨_, _, _, w, _⟩ := w; cases w)
  obtain ⟨w1, w2, v2, w3, w4⟩ := w
  cases w3
  exact aw_tail (p := 2370) (off := 347) (by decide +kernel) (by decide) hk w2 w4 (fun o7 => K _ _ _ _ _ _ w1)
theorem lc_written {L : Nat} {xs : Nat → Int32} {s : az_S} {gl : Nat → Nat → Int64} {gd : Nat → Nat → UInt64} {N : Nat} {Q : Option Value ⊕ Nat → az_S → (Nat → Nat → Int64) → (Nat → Nat → UInt64) → Prop} {i : Nat} {o6 o7 o8 : Option Value} {h : Nat} (H : zyS s h) (hh : h + 10 ≤ 10000) (hL : i + 5 ≤ L ∧ L < 2147483648) (K : ∀ t gl2 gd2 o6 o7 o8, zyS t (h + 10) → aw_R L xs 14 am_m_L_law 2747 (al i o6 o7 o8) [] t gl2 gd2 N Q) : aw_R L xs 14 am_m_L_law 2403 (al i o6 o7 o8) [] s gl gd (N + 1) Q := by
  have hK : ∀ q, q ∈ ([(2403, .aload_n 1, 1), (2404, .aload_n 0, 1), (2405, .iload 5, 2), (2407, .iconst 1, 1), (2408, .iadd, 1), (2409, .iaload, 1), (2410, .aload_n 3, 1), (2411, .invokestatic 281, 3), (2414, .istore 6, 2), (2416, .aload_n 2, 1), (2417, .aload_n 0, 1), (2418, .iload 5, 2), (2420, .iconst 1, 1), (2421, .iadd, 1), (2422, .iaload, 1), (2423, .invokevirtual 283, 3)] : List (Nat × Instr × Nat)) → am_find q.1 am_c_L_law = some q.2 := by decide +kernel
  refine aw_s 2404 (al i o6 o7 o8) (List.map az_e [az_r 0]) (aw_n hK 0 2403 (.aload_n 1) 1 rfl) rfl ?_
  refine aw_ai (p := 2404) (j := 1) (aw_n hK 1 2404 (.aload_n 0) 1 rfl) (aw_n hK 2 2405 (.iload 5) 2 rfl) (aw_n hK 3 2407 (.iconst 1) 1 rfl) (aw_n hK 4 2408 (.iadd) 1 rfl) (aw_n hK 5 2409 (.iaload) 1 rfl) ⟨by omega, hL.2⟩ ?_
  refine aw_s 2411 (al i o6 o7 o8) (List.map az_e [az_r 43, az_i (xs (i + 1)).toInt, az_r 0]) (aw_n hK 6 2410 (.aload_n 3) 1 rfl) rfl ?_
  refine aw_w (d := 13) (N1 := 1) (N2 := N) 2414 (st := [az_r 43, az_i (xs (i + 1)).toInt, az_r 0]) (aw_n hK 7 2411 (.invokestatic 281) 3 rfl) rfl rfl (by omega) (wl_written (zc_written H hh aw_x)) (fun v t gl2 gd2 q => ?_) (fun E t gl2 gd2 q => by obtain ⟨_, k, _, w, _⟩ := q; cases w)
  obtain ⟨rfl, k, hk, e, q⟩ := q
  cases e
  refine aw_s 2416 (al i (some (az_e (az_i ((k : Nat) : Int)))) o7 o8) [] (aw_n hK 8 2414 (.istore 6) 2 rfl) rfl ?_
  refine aw_s 2417 (al i (some (az_e (az_i ((k : Nat) : Int)))) o7 o8) (List.map az_e [az_r 34]) (aw_n hK 9 2416 (.aload_n 2) 1 rfl) rfl ?_
  refine aw_ai (p := 2417) (j := 1) (aw_n hK 10 2417 (.aload_n 0) 1 rfl) (aw_n hK 11 2418 (.iload 5) 2 rfl) (aw_n hK 12 2420 (.iconst 1) 1 rfl) (aw_n hK 13 2421 (.iadd) 1 rfl) (aw_n hK 14 2422 (.iaload) 1 rfl) ⟨by omega, hL.2⟩ ?_
  refine aw_c (d := 13) 2426 (st := [az_i (xs (i + 1)).toInt, az_r 34]) (aw_n hK 15 2423 (.invokevirtual 283) 3 rfl) rfl rfl (az_deep q (by decide)) (fun v t2 w => ?_) (fun E t2 w => by obtain ⟨_, _, _, w, _⟩ := w; cases w)
  obtain ⟨w1, w2, v2, w3, w4⟩ := w
  cases w3
  exact aw_tail (p := 2426) (off := 291) (by decide +kernel) (by decide) hk w2 w4 (fun o7 => K _ _ _ _ _ _ w1)
theorem lc_account {L : Nat} {xs : Nat → Int32} {s : az_S} {gl : Nat → Nat → Int64} {gd : Nat → Nat → UInt64} {N : Nat} {Q : Option Value ⊕ Nat → az_S → (Nat → Nat → Int64) → (Nat → Nat → UInt64) → Prop} {i : Nat} {o6 o7 o8 : Option Value} {h : Nat} (H : zyS s h) (hh : h + 10 ≤ 10000) (hL : i + 5 ≤ L ∧ L < 2147483648) (K : ∀ t gl2 gd2 o6 o7 o8, zyS t (h + 10) → aw_R L xs 14 am_m_L_law 2747 (al i o6 o7 o8) [] t gl2 gd2 N Q) : aw_R L xs 14 am_m_L_law 2459 (al i o6 o7 o8) [] s gl gd (N + 1) Q := by
  have hK : ∀ q, q ∈ ([(2459, .aload_n 1, 1), (2460, .aload_n 0, 1), (2461, .iload 5, 2), (2463, .iconst 1, 1), (2464, .iadd, 1), (2465, .iaload, 1), (2466, .aload_n 3, 1), (2467, .invokestatic 284, 3), (2470, .istore 6, 2), (2472, .aload_n 2, 1), (2473, .aload_n 0, 1), (2474, .iload 5, 2), (2476, .iconst 1, 1), (2477, .iadd, 1), (2478, .iaload, 1), (2479, .invokevirtual 286, 3)] : List (Nat × Instr × Nat)) → am_find q.1 am_c_L_law = some q.2 := by decide +kernel
  refine aw_s 2460 (al i o6 o7 o8) (List.map az_e [az_r 0]) (aw_n hK 0 2459 (.aload_n 1) 1 rfl) rfl ?_
  refine aw_ai (p := 2460) (j := 1) (aw_n hK 1 2460 (.aload_n 0) 1 rfl) (aw_n hK 2 2461 (.iload 5) 2 rfl) (aw_n hK 3 2463 (.iconst 1) 1 rfl) (aw_n hK 4 2464 (.iadd) 1 rfl) (aw_n hK 5 2465 (.iaload) 1 rfl) ⟨by omega, hL.2⟩ ?_
  refine aw_s 2467 (al i o6 o7 o8) (List.map az_e [az_r 43, az_i (xs (i + 1)).toInt, az_r 0]) (aw_n hK 6 2466 (.aload_n 3) 1 rfl) rfl ?_
  refine aw_w (d := 13) (N1 := 1) (N2 := N) 2470 (st := [az_r 43, az_i (xs (i + 1)).toInt, az_r 0]) (aw_n hK 7 2467 (.invokestatic 284) 3 rfl) rfl rfl (by omega) (wl_account (zc_account H hh aw_x)) (fun v t gl2 gd2 q => ?_) (fun E t gl2 gd2 q => by obtain ⟨_, k, _, w, _⟩ := q; cases w)
  obtain ⟨rfl, k, hk, e, q⟩ := q
  cases e
  refine aw_s 2472 (al i (some (az_e (az_i ((k : Nat) : Int)))) o7 o8) [] (aw_n hK 8 2470 (.istore 6) 2 rfl) rfl ?_
  refine aw_s 2473 (al i (some (az_e (az_i ((k : Nat) : Int)))) o7 o8) (List.map az_e [az_r 34]) (aw_n hK 9 2472 (.aload_n 2) 1 rfl) rfl ?_
  refine aw_ai (p := 2473) (j := 1) (aw_n hK 10 2473 (.aload_n 0) 1 rfl) (aw_n hK 11 2474 (.iload 5) 2 rfl) (aw_n hK 12 2476 (.iconst 1) 1 rfl) (aw_n hK 13 2477 (.iadd) 1 rfl) (aw_n hK 14 2478 (.iaload) 1 rfl) ⟨by omega, hL.2⟩ ?_
  refine aw_c (d := 13) 2482 (st := [az_i (xs (i + 1)).toInt, az_r 34]) (aw_n hK 15 2479 (.invokevirtual 286) 3 rfl) rfl rfl (az_deep q (by decide)) (fun v t2 w => ?_) (fun E t2 w => by obtain ⟨_, _, _, w, _⟩ := w; cases w)
  obtain ⟨w1, w2, v2, w3, w4⟩ := w
  cases w3
  exact aw_tail (p := 2482) (off := 235) (by decide +kernel) (by decide) hk w2 w4 (fun o7 => K _ _ _ _ _ _ w1)
theorem lc_undo {L : Nat} {xs : Nat → Int32} {s : az_S} {gl : Nat → Nat → Int64} {gd : Nat → Nat → UInt64} {N : Nat} {Q : Option Value ⊕ Nat → az_S → (Nat → Nat → Int64) → (Nat → Nat → UInt64) → Prop} {i : Nat} {o6 o7 o8 : Option Value} {h : Nat} (H : zyS s h) (hh : h + 10 ≤ 10000) (hL : i + 5 ≤ L ∧ L < 2147483648) (K : ∀ t gl2 gd2 o6 o7 o8, zyS t (h + 10) → aw_R L xs 14 am_m_L_law 2747 (al i o6 o7 o8) [] t gl2 gd2 N Q) : aw_R L xs 14 am_m_L_law 2646 (al i o6 o7 o8) [] s gl gd (N + 1) Q := by
  have hK : ∀ q, q ∈ ([(2646, .aload_n 1, 1), (2647, .aload_n 3, 1), (2648, .invokestatic 294, 3), (2651, .istore 6, 2), (2653, .aload_n 2, 1), (2654, .invokevirtual 296, 3)] : List (Nat × Instr × Nat)) → am_find q.1 am_c_L_law = some q.2 := by decide +kernel
  refine aw_s 2647 (al i o6 o7 o8) (List.map az_e [az_r 0]) (aw_n hK 0 2646 (.aload_n 1) 1 rfl) rfl ?_
  refine aw_s 2648 (al i o6 o7 o8) (List.map az_e [az_r 43, az_r 0]) (aw_n hK 1 2647 (.aload_n 3) 1 rfl) rfl ?_
  refine aw_w (d := 13) (N1 := 1) (N2 := N) 2651 (st := [az_r 43, az_r 0]) (aw_n hK 2 2648 (.invokestatic 294) 3 rfl) rfl rfl (by omega) (wl_undo (zc_undo H hh)) (fun v t gl2 gd2 q => ?_) (fun E t gl2 gd2 q => by obtain ⟨_, k, _, w, _⟩ := q; cases w)
  obtain ⟨rfl, k, hk, e, q⟩ := q
  cases e
  refine aw_s 2653 (al i (some (az_e (az_i ((k : Nat) : Int)))) o7 o8) [] (aw_n hK 3 2651 (.istore 6) 2 rfl) rfl ?_
  refine aw_s 2654 (al i (some (az_e (az_i ((k : Nat) : Int)))) o7 o8) (List.map az_e [az_r 34]) (aw_n hK 4 2653 (.aload_n 2) 1 rfl) rfl ?_
  refine aw_c (d := 13) 2657 (st := [az_r 34]) (aw_n hK 5 2654 (.invokevirtual 296) 3 rfl) rfl rfl (az_deep q (by decide)) (fun v t2 w => ?_) (fun E t2 w => by obtain ⟨_, _, _, w, _⟩ := w; cases w)
  obtain ⟨w1, w2, v2, w3, w4⟩ := w
  cases w3
  exact aw_tail (p := 2657) (off := 60) (by decide +kernel) (by decide) hk w2 w4 (fun o7 => K _ _ _ _ _ _ w1)
theorem lc_save {L : Nat} {xs : Nat → Int32} {s : az_S} {gl : Nat → Nat → Int64} {gd : Nat → Nat → UInt64} {N : Nat} {Q : Option Value ⊕ Nat → az_S → (Nat → Nat → Int64) → (Nat → Nat → UInt64) → Prop} {i : Nat} {o6 o7 o8 : Option Value} {h : Nat} (H : zyS s h) (hh : h + 10 ≤ 10000) (hL : i + 5 ≤ L ∧ L < 2147483648) (K : ∀ t gl2 gd2 o6 o7 o8, zyS t (h + 10) → aw_R L xs 14 am_m_L_law 2747 (al i o6 o7 o8) [] t gl2 gd2 N Q) : aw_R L xs 14 am_m_L_law 2690 (al i o6 o7 o8) [] s gl gd (N + 1) Q := by
  have hK : ∀ q, q ∈ ([(2690, .aload_n 1, 1), (2691, .invokevirtual 297, 3), (2694, .aload_n 2, 1), (2695, .invokevirtual 300, 3), (2698, .if_icmp .eq 49, 3)] : List (Nat × Instr × Nat)) → am_find q.1 am_c_L_law = some q.2 := by decide +kernel
  refine aw_s 2691 (al i o6 o7 o8) (List.map az_e [az_r 0]) (aw_n hK 0 2690 (.aload_n 1) 1 rfl) rfl ?_
  refine aw_c (d := 13) 2694 (st := [az_r 0]) (aw_n hK 1 2691 (.invokevirtual 297) 3 rfl) rfl rfl (az_deep (zc_save H hh) (by decide)) (fun v t q => ?_) (fun E t q => (awP_0 q).elim)
  obtain ⟨v0, rfl, q2⟩ := awP_v (k := 0) q
  refine aw_s 2695 (al i o6 o7 o8) (List.map az_e [az_r 34, az_i v0]) (aw_n hK 2 2694 (.aload_n 2) 1 rfl) rfl ?_
  refine aw_c (d := 13) 2698 (st := [az_r 34, az_i v0]) (aw_n hK 3 2695 (.invokevirtual 300) 3 rfl) rfl rfl (az_deep q2 (by decide)) (fun v t2 w => ?_) (fun E t2 w => by cases w.2.2)
  obtain ⟨w1, w2, w3⟩ := w
  cases w3
  exact aw_s 2747 (al i o6 o7 o8) [] (aw_n hK 4 2698 (.if_icmp .eq 49) 3 rfl) (aw_if (by decide)) (aw_wk (K _ _ _ _ _ _ w1) (by omega) (fun _ _ _ _ w => w))
theorem lc_restore {L : Nat} {xs : Nat → Int32} {s : az_S} {gl : Nat → Nat → Int64} {gd : Nat → Nat → UInt64} {N : Nat} {Q : Option Value ⊕ Nat → az_S → (Nat → Nat → Int64) → (Nat → Nat → UInt64) → Prop} {i : Nat} {o6 o7 o8 : Option Value} {h : Nat} (H : zyS s h) (hh : h + 10 ≤ 10000) (hL : i + 5 ≤ L ∧ L < 2147483648) (K : ∀ t gl2 gd2 o6 o7 o8, zyS t (h + 10) → aw_R L xs 14 am_m_L_law 2747 (al i o6 o7 o8) [] t gl2 gd2 N Q) : aw_R L xs 14 am_m_L_law 2703 (al i o6 o7 o8) [] s gl gd (N + 1) Q := by
  have hK : ∀ q, q ∈ ([(2703, .aload_n 1, 1), (2704, .aload_n 3, 1), (2705, .invokestatic 301, 3), (2708, .istore 6, 2), (2710, .aload_n 2, 1), (2711, .invokevirtual 303, 3)] : List (Nat × Instr × Nat)) → am_find q.1 am_c_L_law = some q.2 := by decide +kernel
  refine aw_s 2704 (al i o6 o7 o8) (List.map az_e [az_r 0]) (aw_n hK 0 2703 (.aload_n 1) 1 rfl) rfl ?_
  refine aw_s 2705 (al i o6 o7 o8) (List.map az_e [az_r 43, az_r 0]) (aw_n hK 1 2704 (.aload_n 3) 1 rfl) rfl ?_
  refine aw_w (d := 13) (N1 := 1) (N2 := N) 2708 (st := [az_r 43, az_r 0]) (aw_n hK 2 2705 (.invokestatic 301) 3 rfl) rfl rfl (by omega) (wl_restore (zc_restore H hh)) (fun v t gl2 gd2 q => ?_) (fun E t gl2 gd2 q => by obtain ⟨_, k, _, w, _⟩ := q; cases w)
  obtain ⟨rfl, k, hk, e, q⟩ := q
  cases e
  refine aw_s 2710 (al i (some (az_e (az_i ((k : Nat) : Int)))) o7 o8) [] (aw_n hK 3 2708 (.istore 6) 2 rfl) rfl ?_
  refine aw_s 2711 (al i (some (az_e (az_i ((k : Nat) : Int)))) o7 o8) (List.map az_e [az_r 34]) (aw_n hK 4 2710 (.aload_n 2) 1 rfl) rfl ?_
  refine aw_c (d := 13) 2714 (st := [az_r 34]) (aw_n hK 5 2711 (.invokevirtual 303) 3 rfl) rfl rfl (az_deep q (by decide)) (fun v t2 w => ?_) (fun E t2 w => by obtain ⟨_, _, _, w, _⟩ := w; cases w)
  obtain ⟨w1, w2, v2, w3, w4⟩ := w
  cases w3
  exact aw_tail (p := 2714) (off := 3) (by decide +kernel) (by decide) hk w2 w4 (fun o7 => K _ _ _ _ _ _ w1)
