/-! THE LAW'S WRAPPERS; written by program (wip/tools/zg/w1.py) -/
/-- what a wrapper leaves: the number of what was thrown, or the long; and what the reference then answers -/
def awP (mR : am_M1) (as : List az_V) (h : Nat) (gd : Nat → Nat → UInt64) (o : Option Value ⊕ Nat) (t : az_S) (gl2 : Nat → Nat → Int64) (gd2 : Nat → Nat → UInt64) : Prop :=
  gd2 = gd ∧ ∃ k : Nat, k ≤ 3 ∧ o = .inl (some (az_e (az_i ((k : Nat) : Int)))) ∧ az_R 12 mR 0 (az_ini (am_mL mR) (az_r 34 :: as)) [] t (fun o2 t2 => zyS t2 (h + 10) ∧ t2 34 6 = ((k : Nat) : Int) ∧ ∃ v, o2 = .inl (some (az_i v)) ∧ (k = 0 → gl2 43 0 = (Int32.ofInt v).toInt64))
theorem aw_ri {x : Int32} : am_ret (some .int) .ireturn [.int x] = some (some (.int x)) := by
  show (if narrow .int (.int x) = .int x then some (some (Value.int x)) else none) = _
  exact if_pos rfl
theorem awP_v {d h k : Nat} {mR : am_M1} {lv : az_L} {t : az_S} {es : List Nat} {v : Option az_V} (q : az_R d mR 0 lv [] t (fun o2 t2 => zMt es (.inl v) o2 (t2 34 6) ∧ zyS t2 h)) : ∃ v0, v = some (az_i v0) ∧ az_R d mR 0 lv [] t (fun o2 t2 => zyS t2 h ∧ t2 34 6 = 0 ∧ o2 = .inl (some (az_i v0))) := by
  obtain ⟨o2, t2, h1, _⟩ := az_ex q
  rcases h1 with ⟨v0, e1, _, _⟩ | ⟨j, E, v0, e1, _⟩
  · cases e1
    refine ⟨v0, rfl, az_wk q (fun o2 t2 h2 => ?_)⟩
    rcases h2 with ⟨⟨v1, e1, e2, e3⟩ | ⟨j, E, v1, e1, _⟩, e4⟩
    · cases e1
      exact ⟨e4, e3, e2⟩
    · cases e1
  · cases e1
theorem awP_E {d h E : Nat} {mR : am_M1} {lv : az_L} {t : az_S} {es : List Nat} (hn : es.length ≤ 3 ∧ ∀ i, i < 3 → ∀ j, j < 3 → i ≠ j → es[i]? = none ∨ es[i]? ≠ es[j]?) (q : az_R d mR 0 lv [] t (fun o2 t2 => zMt es (.inr E) o2 (t2 34 6) ∧ zyS t2 h)) : ∃ j, j < 3 ∧ es[j]? = some E ∧ az_R d mR 0 lv [] t (fun o2 t2 => zyS t2 h ∧ t2 34 6 = ((j + 1 : Nat) : Int) ∧ ∃ v, o2 = .inl (some (az_i v)) ∧ (j + 1 = 0 → False)) := by
  have key : ∀ j, es[j]? = some E → j < 3 := fun j hj => by
    obtain ⟨h1, _⟩ := List.getElem?_eq_some_iff.mp hj
    omega
  obtain ⟨o2, t2, h1, _⟩ := az_ex q
  rcases h1 with ⟨v0, e1, _⟩ | ⟨j, E2, v0, e1, e2, _⟩
  · cases e1
  · cases e1
    refine ⟨j, key j e2, e2, az_wk q (fun o2 t2 h2 => ?_)⟩
    rcases h2 with ⟨⟨v1, e1, _⟩ | ⟨j2, E2, v1, e1, e3, e4, e5⟩, e6⟩
    · cases e1
    · cases e1
      by_cases w : j2 = j
      · subst w
        exact ⟨e6, e5, v1, e4, fun w => absurd w (by omega)⟩
      · rcases hn.2 j2 (key _ e3) j (key _ e2) w with w | w
        · rw [w] at e3; cases e3
        · exact absurd (e3.trans e2.symm) w
theorem wl_bridge {L : Nat} {xs : Nat → Int32} {s : az_S} {h : Nat} {gl : Nat → Nat → Int64} {gd : Nat → Nat → UInt64} {a b c d : Int} (HC : zCs am_m_X9_bridge am_m_X10_bridge [az_i a, az_i b, az_i c, az_i d] [3, 1, 4] s h) : aw_R L xs 13 am_m_L_bridge 0 (am_ini (am_mL am_m_L_bridge) (List.map az_e [az_r 0, az_i a, az_i b, az_i c, az_i d, az_r 43])) [] s gl gd 1 (awP am_m_X10_bridge [az_i a, az_i b, az_i c, az_i d] h gd) := by
  refine aw_s 2 (am_ini (am_mL am_m_L_bridge) (List.map az_e [az_r 0, az_i a, az_i b, az_i c, az_i d, az_r 43])) (List.map az_e [az_r 43]) rfl rfl ?_
  refine aw_s 3 (am_ini (am_mL am_m_L_bridge) (List.map az_e [az_r 0, az_i a, az_i b, az_i c, az_i d, az_r 43])) (List.map az_e [az_i 0, az_r 43]) rfl rfl ?_
  refine aw_s 4 (am_ini (am_mL am_m_L_bridge) (List.map az_e [az_r 0, az_i a, az_i b, az_i c, az_i d, az_r 43])) (List.map az_e [az_r 0, az_i 0, az_r 43]) rfl rfl ?_
  refine aw_s 5 (am_ini (am_mL am_m_L_bridge) (List.map az_e [az_r 0, az_i a, az_i b, az_i c, az_i d, az_r 43])) (List.map az_e [az_i a, az_r 0, az_i 0, az_r 43]) rfl rfl ?_
  refine aw_s 6 (am_ini (am_mL am_m_L_bridge) (List.map az_e [az_r 0, az_i a, az_i b, az_i c, az_i d, az_r 43])) (List.map az_e [az_i b, az_i a, az_r 0, az_i 0, az_r 43]) rfl rfl ?_
  refine aw_s 7 (am_ini (am_mL am_m_L_bridge) (List.map az_e [az_r 0, az_i a, az_i b, az_i c, az_i d, az_r 43])) (List.map az_e [az_i c, az_i b, az_i a, az_r 0, az_i 0, az_r 43]) rfl rfl ?_
  refine aw_s 9 (am_ini (am_mL am_m_L_bridge) (List.map az_e [az_r 0, az_i a, az_i b, az_i c, az_i d, az_r 43])) (List.map az_e [az_i d, az_i c, az_i b, az_i a, az_r 0, az_i 0, az_r 43]) rfl rfl ?_
  refine aw_c 12 (st := [az_i d, az_i c, az_i b, az_i a, az_r 0, az_i 0, az_r 43]) rfl rfl rfl HC (fun v t q => ?_) (fun E t q => ?_)
  · obtain ⟨v0, rfl, q2⟩ := awP_v (k := 0) q
    refine aw_s 13 (am_ini (am_mL am_m_L_bridge) (List.map az_e [az_r 0, az_i a, az_i b, az_i c, az_i d, az_r 43])) [.long (Int32.ofInt v0).toInt64, .int (Int32.ofInt 0), .ref 43] rfl rfl ?_
    refine aw_h 14 [] t (am_up gl 43 0 (Int32.ofInt v0).toInt64) gd rfl rfl aw_ls rfl ?_
    refine aw_s 29 (am_ini (am_mL am_m_L_bridge) (List.map az_e [az_r 0, az_i a, az_i b, az_i c, az_i d, az_r 43])) [] rfl rfl ?_
    refine aw_s 30 (am_ini (am_mL am_m_L_bridge) (List.map az_e [az_r 0, az_i a, az_i b, az_i c, az_i d, az_r 43])) [.int (Int32.ofInt 0)] rfl rfl ?_
    exact aw_end rfl rfl rfl rfl aw_ri ⟨rfl, 0, by decide, rfl, az_wk q2 (fun o2 t2 w => ⟨w.1, w.2.1, v0, w.2.2, fun _ => rfl⟩)⟩
  · obtain ⟨j, hj, hE, q2⟩ := awP_E (by decide) q
    have hc : j = 0 ∨ j = 1 ∨ j = 2 := by omega
    rcases hc with rfl | rfl | rfl
    · obtain rfl : 3 = E := Option.some.inj hE
      refine ⟨17, 19, _, 0, rfl, rfl, rfl, ?_⟩
      refine aw_s 20 _ [.int (Int32.ofInt 1)] rfl rfl ?_
      exact aw_end rfl rfl rfl rfl aw_ri ⟨rfl, 1, by decide, rfl, az_wk q2 (fun o2 t2 w => ⟨w.1, w.2.1, w.2.2.elim fun v w => ⟨v, w.1, fun w2 => absurd w2 (by decide)⟩⟩)⟩
    · obtain rfl : 1 = E := Option.some.inj hE
      refine ⟨21, 23, _, 0, rfl, rfl, rfl, ?_⟩
      refine aw_s 24 _ [.int (Int32.ofInt 2)] rfl rfl ?_
      exact aw_end rfl rfl rfl rfl aw_ri ⟨rfl, 2, by decide, rfl, az_wk q2 (fun o2 t2 w => ⟨w.1, w.2.1, w.2.2.elim fun v w => ⟨v, w.1, fun w2 => absurd w2 (by decide)⟩⟩)⟩
    · obtain rfl : 4 = E := Option.some.inj hE
      refine ⟨25, 27, _, 0, rfl, rfl, rfl, ?_⟩
      refine aw_s 28 _ [.int (Int32.ofInt 3)] rfl rfl ?_
      exact aw_end rfl rfl rfl rfl aw_ri ⟨rfl, 3, by decide, rfl, az_wk q2 (fun o2 t2 w => ⟨w.1, w.2.1, w.2.2.elim fun v w => ⟨v, w.1, fun w2 => absurd w2 (by decide)⟩⟩)⟩
theorem wl_troll {L : Nat} {xs : Nat → Int32} {s : az_S} {h : Nat} {gl : Nat → Nat → Int64} {gd : Nat → Nat → UInt64} (HC : zCs am_m_X9_troll am_m_X10_troll [] [4] s h) : aw_R L xs 13 am_m_L_troll 0 (am_ini (am_mL am_m_L_troll) (List.map az_e [az_r 0, az_r 43])) [] s gl gd 1 (awP am_m_X10_troll [] h gd) := by
  refine aw_s 1 (am_ini (am_mL am_m_L_troll) (List.map az_e [az_r 0, az_r 43])) (List.map az_e [az_r 43]) rfl rfl ?_
  refine aw_s 2 (am_ini (am_mL am_m_L_troll) (List.map az_e [az_r 0, az_r 43])) (List.map az_e [az_i 0, az_r 43]) rfl rfl ?_
  refine aw_s 3 (am_ini (am_mL am_m_L_troll) (List.map az_e [az_r 0, az_r 43])) (List.map az_e [az_r 0, az_i 0, az_r 43]) rfl rfl ?_
  refine aw_c 6 (st := [az_r 0, az_i 0, az_r 43]) rfl rfl rfl HC (fun v t q => ?_) (fun E t q => ?_)
  · obtain ⟨v0, rfl, q2⟩ := awP_v (k := 0) q
    refine aw_s 7 (am_ini (am_mL am_m_L_troll) (List.map az_e [az_r 0, az_r 43])) [.long (Int32.ofInt v0).toInt64, .int (Int32.ofInt 0), .ref 43] rfl rfl ?_
    refine aw_h 8 [] t (am_up gl 43 0 (Int32.ofInt v0).toInt64) gd rfl rfl aw_ls rfl ?_
    refine aw_s 14 (am_ini (am_mL am_m_L_troll) (List.map az_e [az_r 0, az_r 43])) [] rfl rfl ?_
    refine aw_s 15 (am_ini (am_mL am_m_L_troll) (List.map az_e [az_r 0, az_r 43])) [.int (Int32.ofInt 0)] rfl rfl ?_
    exact aw_end rfl rfl rfl rfl aw_ri ⟨rfl, 0, by decide, rfl, az_wk q2 (fun o2 t2 w => ⟨w.1, w.2.1, v0, w.2.2, fun _ => rfl⟩)⟩
  · obtain ⟨j, hj, hE, q2⟩ := awP_E (by decide) q
    have hc : j = 0 ∨ j = 1 ∨ j = 2 := by omega
    rcases hc with rfl | rfl | rfl
    · obtain rfl : 4 = E := Option.some.inj hE
      refine ⟨11, 12, _, 0, rfl, rfl, rfl, ?_⟩
      refine aw_s 13 _ [.int (Int32.ofInt 1)] rfl rfl ?_
      exact aw_end rfl rfl rfl rfl aw_ri ⟨rfl, 1, by decide, rfl, az_wk q2 (fun o2 t2 w => ⟨w.1, w.2.1, w.2.2.elim fun v w => ⟨v, w.1, fun w2 => absurd w2 (by decide)⟩⟩)⟩
    · exact absurd (show (none : Option Nat) = some E from hE) (fun w => by cases w)
    · exact absurd (show (none : Option Nat) = some E from hE) (fun w => by cases w)
theorem wl_goat {L : Nat} {xs : Nat → Int32} {s : az_S} {h : Nat} {gl : Nat → Nat → Int64} {gd : Nat → Nat → UInt64} {a b : Int} (HC : zCs am_m_X9_goat am_m_X10_goat [az_i a, az_i b] [3, 1, 4] s h) : aw_R L xs 13 am_m_L_goat 0 (am_ini (am_mL am_m_L_goat) (List.map az_e [az_r 0, az_i a, az_i b, az_r 43])) [] s gl gd 1 (awP am_m_X10_goat [az_i a, az_i b] h gd) := by
  refine aw_s 1 (am_ini (am_mL am_m_L_goat) (List.map az_e [az_r 0, az_i a, az_i b, az_r 43])) (List.map az_e [az_r 43]) rfl rfl ?_
  refine aw_s 2 (am_ini (am_mL am_m_L_goat) (List.map az_e [az_r 0, az_i a, az_i b, az_r 43])) (List.map az_e [az_i 0, az_r 43]) rfl rfl ?_
  refine aw_s 3 (am_ini (am_mL am_m_L_goat) (List.map az_e [az_r 0, az_i a, az_i b, az_r 43])) (List.map az_e [az_r 0, az_i 0, az_r 43]) rfl rfl ?_
  refine aw_s 4 (am_ini (am_mL am_m_L_goat) (List.map az_e [az_r 0, az_i a, az_i b, az_r 43])) (List.map az_e [az_i a, az_r 0, az_i 0, az_r 43]) rfl rfl ?_
  refine aw_s 5 (am_ini (am_mL am_m_L_goat) (List.map az_e [az_r 0, az_i a, az_i b, az_r 43])) (List.map az_e [az_i b, az_i a, az_r 0, az_i 0, az_r 43]) rfl rfl ?_
  refine aw_c 8 (st := [az_i b, az_i a, az_r 0, az_i 0, az_r 43]) rfl rfl rfl HC (fun v t q => ?_) (fun E t q => ?_)
  · obtain ⟨v0, rfl, q2⟩ := awP_v (k := 0) q
    refine aw_s 9 (am_ini (am_mL am_m_L_goat) (List.map az_e [az_r 0, az_i a, az_i b, az_r 43])) [.long (Int32.ofInt v0).toInt64, .int (Int32.ofInt 0), .ref 43] rfl rfl ?_
    refine aw_h 10 [] t (am_up gl 43 0 (Int32.ofInt v0).toInt64) gd rfl rfl aw_ls rfl ?_
    refine aw_s 25 (am_ini (am_mL am_m_L_goat) (List.map az_e [az_r 0, az_i a, az_i b, az_r 43])) [] rfl rfl ?_
    refine aw_s 26 (am_ini (am_mL am_m_L_goat) (List.map az_e [az_r 0, az_i a, az_i b, az_r 43])) [.int (Int32.ofInt 0)] rfl rfl ?_
    exact aw_end rfl rfl rfl rfl aw_ri ⟨rfl, 0, by decide, rfl, az_wk q2 (fun o2 t2 w => ⟨w.1, w.2.1, v0, w.2.2, fun _ => rfl⟩)⟩
  · obtain ⟨j, hj, hE, q2⟩ := awP_E (by decide) q
    have hc : j = 0 ∨ j = 1 ∨ j = 2 := by omega
    rcases hc with rfl | rfl | rfl
    · obtain rfl : 3 = E := Option.some.inj hE
      refine ⟨13, 15, _, 0, rfl, rfl, rfl, ?_⟩
      refine aw_s 16 _ [.int (Int32.ofInt 1)] rfl rfl ?_
      exact aw_end rfl rfl rfl rfl aw_ri ⟨rfl, 1, by decide, rfl, az_wk q2 (fun o2 t2 w => ⟨w.1, w.2.1, w.2.2.elim fun v w => ⟨v, w.1, fun w2 => absurd w2 (by decide)⟩⟩)⟩
    · obtain rfl : 1 = E := Option.some.inj hE
      refine ⟨17, 19, _, 0, rfl, rfl, rfl, ?_⟩
      refine aw_s 20 _ [.int (Int32.ofInt 2)] rfl rfl ?_
      exact aw_end rfl rfl rfl rfl aw_ri ⟨rfl, 2, by decide, rfl, az_wk q2 (fun o2 t2 w => ⟨w.1, w.2.1, w.2.2.elim fun v w => ⟨v, w.1, fun w2 => absurd w2 (by decide)⟩⟩)⟩
    · obtain rfl : 4 = E := Option.some.inj hE
      refine ⟨21, 23, _, 0, rfl, rfl, rfl, ?_⟩
      refine aw_s 24 _ [.int (Int32.ofInt 3)] rfl rfl ?_
      exact aw_end rfl rfl rfl rfl aw_ri ⟨rfl, 3, by decide, rfl, az_wk q2 (fun o2 t2 w => ⟨w.1, w.2.1, w.2.2.elim fun v w => ⟨v, w.1, fun w2 => absurd w2 (by decide)⟩⟩)⟩
theorem wl_post {L : Nat} {xs : Nat → Int32} {s : az_S} {h : Nat} {gl : Nat → Nat → Int64} {gd : Nat → Nat → UInt64} {a b : Int} (HC : zCs am_m_X9_post am_m_X10_post [az_i a, az_i b] [3, 4] s h) : aw_R L xs 13 am_m_L_post 0 (am_ini (am_mL am_m_L_post) (List.map az_e [az_r 0, az_i a, az_i b, az_r 43])) [] s gl gd 1 (awP am_m_X10_post [az_i a, az_i b] h gd) := by
  refine aw_s 1 (am_ini (am_mL am_m_L_post) (List.map az_e [az_r 0, az_i a, az_i b, az_r 43])) (List.map az_e [az_r 43]) rfl rfl ?_
  refine aw_s 2 (am_ini (am_mL am_m_L_post) (List.map az_e [az_r 0, az_i a, az_i b, az_r 43])) (List.map az_e [az_i 0, az_r 43]) rfl rfl ?_
  refine aw_s 3 (am_ini (am_mL am_m_L_post) (List.map az_e [az_r 0, az_i a, az_i b, az_r 43])) (List.map az_e [az_r 0, az_i 0, az_r 43]) rfl rfl ?_
  refine aw_s 4 (am_ini (am_mL am_m_L_post) (List.map az_e [az_r 0, az_i a, az_i b, az_r 43])) (List.map az_e [az_i a, az_r 0, az_i 0, az_r 43]) rfl rfl ?_
  refine aw_s 5 (am_ini (am_mL am_m_L_post) (List.map az_e [az_r 0, az_i a, az_i b, az_r 43])) (List.map az_e [az_i b, az_i a, az_r 0, az_i 0, az_r 43]) rfl rfl ?_
  refine aw_c 8 (st := [az_i b, az_i a, az_r 0, az_i 0, az_r 43]) rfl rfl rfl HC (fun v t q => ?_) (fun E t q => ?_)
  · obtain ⟨v0, rfl, q2⟩ := awP_v (k := 0) q
    refine aw_s 9 (am_ini (am_mL am_m_L_post) (List.map az_e [az_r 0, az_i a, az_i b, az_r 43])) [.long (Int32.ofInt v0).toInt64, .int (Int32.ofInt 0), .ref 43] rfl rfl ?_
    refine aw_h 10 [] t (am_up gl 43 0 (Int32.ofInt v0).toInt64) gd rfl rfl aw_ls rfl ?_
    refine aw_s 21 (am_ini (am_mL am_m_L_post) (List.map az_e [az_r 0, az_i a, az_i b, az_r 43])) [] rfl rfl ?_
    refine aw_s 22 (am_ini (am_mL am_m_L_post) (List.map az_e [az_r 0, az_i a, az_i b, az_r 43])) [.int (Int32.ofInt 0)] rfl rfl ?_
    exact aw_end rfl rfl rfl rfl aw_ri ⟨rfl, 0, by decide, rfl, az_wk q2 (fun o2 t2 w => ⟨w.1, w.2.1, v0, w.2.2, fun _ => rfl⟩)⟩
  · obtain ⟨j, hj, hE, q2⟩ := awP_E (by decide) q
    have hc : j = 0 ∨ j = 1 ∨ j = 2 := by omega
    rcases hc with rfl | rfl | rfl
    · obtain rfl : 3 = E := Option.some.inj hE
      refine ⟨13, 15, _, 0, rfl, rfl, rfl, ?_⟩
      refine aw_s 16 _ [.int (Int32.ofInt 1)] rfl rfl ?_
      exact aw_end rfl rfl rfl rfl aw_ri ⟨rfl, 1, by decide, rfl, az_wk q2 (fun o2 t2 w => ⟨w.1, w.2.1, w.2.2.elim fun v w => ⟨v, w.1, fun w2 => absurd w2 (by decide)⟩⟩)⟩
    · obtain rfl : 4 = E := Option.some.inj hE
      refine ⟨17, 19, _, 0, rfl, rfl, rfl, ?_⟩
      refine aw_s 20 _ [.int (Int32.ofInt 2)] rfl rfl ?_
      exact aw_end rfl rfl rfl rfl aw_ri ⟨rfl, 2, by decide, rfl, az_wk q2 (fun o2 t2 w => ⟨w.1, w.2.1, w.2.2.elim fun v w => ⟨v, w.1, fun w2 => absurd w2 (by decide)⟩⟩)⟩
    · exact absurd (show (none : Option Nat) = some E from hE) (fun w => by cases w)
theorem wl_leave {L : Nat} {xs : Nat → Int32} {s : az_S} {h : Nat} {gl : Nat → Nat → Int64} {gd : Nat → Nat → UInt64} {a : Int} (HC : zCs am_m_X9_leave am_m_X10_leave [az_i a] [3, 4] s h) : aw_R L xs 13 am_m_L_leave 0 (am_ini (am_mL am_m_L_leave) (List.map az_e [az_r 0, az_i a, az_r 43])) [] s gl gd 1 (awP am_m_X10_leave [az_i a] h gd) := by
  refine aw_s 1 (am_ini (am_mL am_m_L_leave) (List.map az_e [az_r 0, az_i a, az_r 43])) (List.map az_e [az_r 43]) rfl rfl ?_
  refine aw_s 2 (am_ini (am_mL am_m_L_leave) (List.map az_e [az_r 0, az_i a, az_r 43])) (List.map az_e [az_i 0, az_r 43]) rfl rfl ?_
  refine aw_s 3 (am_ini (am_mL am_m_L_leave) (List.map az_e [az_r 0, az_i a, az_r 43])) (List.map az_e [az_r 0, az_i 0, az_r 43]) rfl rfl ?_
  refine aw_s 4 (am_ini (am_mL am_m_L_leave) (List.map az_e [az_r 0, az_i a, az_r 43])) (List.map az_e [az_i a, az_r 0, az_i 0, az_r 43]) rfl rfl ?_
  refine aw_c 7 (st := [az_i a, az_r 0, az_i 0, az_r 43]) rfl rfl rfl HC (fun v t q => ?_) (fun E t q => ?_)
  · obtain ⟨v0, rfl, q2⟩ := awP_v (k := 0) q
    refine aw_s 8 (am_ini (am_mL am_m_L_leave) (List.map az_e [az_r 0, az_i a, az_r 43])) [.long (Int32.ofInt v0).toInt64, .int (Int32.ofInt 0), .ref 43] rfl rfl ?_
    refine aw_h 9 [] t (am_up gl 43 0 (Int32.ofInt v0).toInt64) gd rfl rfl aw_ls rfl ?_
    refine aw_s 18 (am_ini (am_mL am_m_L_leave) (List.map az_e [az_r 0, az_i a, az_r 43])) [] rfl rfl ?_
    refine aw_s 19 (am_ini (am_mL am_m_L_leave) (List.map az_e [az_r 0, az_i a, az_r 43])) [.int (Int32.ofInt 0)] rfl rfl ?_
    exact aw_end rfl rfl rfl rfl aw_ri ⟨rfl, 0, by decide, rfl, az_wk q2 (fun o2 t2 w => ⟨w.1, w.2.1, v0, w.2.2, fun _ => rfl⟩)⟩
  · obtain ⟨j, hj, hE, q2⟩ := awP_E (by decide) q
    have hc : j = 0 ∨ j = 1 ∨ j = 2 := by omega
    rcases hc with rfl | rfl | rfl
    · obtain rfl : 3 = E := Option.some.inj hE
      refine ⟨12, 13, _, 0, rfl, rfl, rfl, ?_⟩
      refine aw_s 14 _ [.int (Int32.ofInt 1)] rfl rfl ?_
      exact aw_end rfl rfl rfl rfl aw_ri ⟨rfl, 1, by decide, rfl, az_wk q2 (fun o2 t2 w => ⟨w.1, w.2.1, w.2.2.elim fun v w => ⟨v, w.1, fun w2 => absurd w2 (by decide)⟩⟩)⟩
    · obtain rfl : 4 = E := Option.some.inj hE
      refine ⟨15, 16, _, 0, rfl, rfl, rfl, ?_⟩
      refine aw_s 17 _ [.int (Int32.ofInt 2)] rfl rfl ?_
      exact aw_end rfl rfl rfl rfl aw_ri ⟨rfl, 2, by decide, rfl, az_wk q2 (fun o2 t2 w => ⟨w.1, w.2.1, w.2.2.elim fun v w => ⟨v, w.1, fun w2 => absurd w2 (by decide)⟩⟩)⟩
    · exact absurd (show (none : Option Nat) = some E from hE) (fun w => by cases w)
theorem wl_riddle {L : Nat} {xs : Nat → Int32} {s : az_S} {h : Nat} {gl : Nat → Nat → Int64} {gd : Nat → Nat → UInt64} {a b c : Int} (HC : zCs am_m_X9_riddle am_m_X10_riddle [az_i a, az_i b, az_i c] [3, 1, 4] s h) : aw_R L xs 13 am_m_L_riddle 0 (am_ini (am_mL am_m_L_riddle) (List.map az_e [az_r 0, az_i a, az_i b, az_i c, az_r 43])) [] s gl gd 1 (awP am_m_X10_riddle [az_i a, az_i b, az_i c] h gd) := by
  refine aw_s 2 (am_ini (am_mL am_m_L_riddle) (List.map az_e [az_r 0, az_i a, az_i b, az_i c, az_r 43])) (List.map az_e [az_r 43]) rfl rfl ?_
  refine aw_s 3 (am_ini (am_mL am_m_L_riddle) (List.map az_e [az_r 0, az_i a, az_i b, az_i c, az_r 43])) (List.map az_e [az_i 0, az_r 43]) rfl rfl ?_
  refine aw_s 4 (am_ini (am_mL am_m_L_riddle) (List.map az_e [az_r 0, az_i a, az_i b, az_i c, az_r 43])) (List.map az_e [az_r 0, az_i 0, az_r 43]) rfl rfl ?_
  refine aw_s 5 (am_ini (am_mL am_m_L_riddle) (List.map az_e [az_r 0, az_i a, az_i b, az_i c, az_r 43])) (List.map az_e [az_i a, az_r 0, az_i 0, az_r 43]) rfl rfl ?_
  refine aw_s 6 (am_ini (am_mL am_m_L_riddle) (List.map az_e [az_r 0, az_i a, az_i b, az_i c, az_r 43])) (List.map az_e [az_i b, az_i a, az_r 0, az_i 0, az_r 43]) rfl rfl ?_
  refine aw_s 7 (am_ini (am_mL am_m_L_riddle) (List.map az_e [az_r 0, az_i a, az_i b, az_i c, az_r 43])) (List.map az_e [az_i c, az_i b, az_i a, az_r 0, az_i 0, az_r 43]) rfl rfl ?_
  refine aw_c 10 (st := [az_i c, az_i b, az_i a, az_r 0, az_i 0, az_r 43]) rfl rfl rfl HC (fun v t q => ?_) (fun E t q => ?_)
  · obtain ⟨v0, rfl, q2⟩ := awP_v (k := 0) q
    refine aw_s 11 (am_ini (am_mL am_m_L_riddle) (List.map az_e [az_r 0, az_i a, az_i b, az_i c, az_r 43])) [.long (Int32.ofInt v0).toInt64, .int (Int32.ofInt 0), .ref 43] rfl rfl ?_
    refine aw_h 12 [] t (am_up gl 43 0 (Int32.ofInt v0).toInt64) gd rfl rfl aw_ls rfl ?_
    refine aw_s 27 (am_ini (am_mL am_m_L_riddle) (List.map az_e [az_r 0, az_i a, az_i b, az_i c, az_r 43])) [] rfl rfl ?_
    refine aw_s 28 (am_ini (am_mL am_m_L_riddle) (List.map az_e [az_r 0, az_i a, az_i b, az_i c, az_r 43])) [.int (Int32.ofInt 0)] rfl rfl ?_
    exact aw_end rfl rfl rfl rfl aw_ri ⟨rfl, 0, by decide, rfl, az_wk q2 (fun o2 t2 w => ⟨w.1, w.2.1, v0, w.2.2, fun _ => rfl⟩)⟩
  · obtain ⟨j, hj, hE, q2⟩ := awP_E (by decide) q
    have hc : j = 0 ∨ j = 1 ∨ j = 2 := by omega
    rcases hc with rfl | rfl | rfl
    · obtain rfl : 3 = E := Option.some.inj hE
      refine ⟨15, 17, _, 0, rfl, rfl, rfl, ?_⟩
      refine aw_s 18 _ [.int (Int32.ofInt 1)] rfl rfl ?_
      exact aw_end rfl rfl rfl rfl aw_ri ⟨rfl, 1, by decide, rfl, az_wk q2 (fun o2 t2 w => ⟨w.1, w.2.1, w.2.2.elim fun v w => ⟨v, w.1, fun w2 => absurd w2 (by decide)⟩⟩)⟩
    · obtain rfl : 1 = E := Option.some.inj hE
      refine ⟨19, 21, _, 0, rfl, rfl, rfl, ?_⟩
      refine aw_s 22 _ [.int (Int32.ofInt 2)] rfl rfl ?_
      exact aw_end rfl rfl rfl rfl aw_ri ⟨rfl, 2, by decide, rfl, az_wk q2 (fun o2 t2 w => ⟨w.1, w.2.1, w.2.2.elim fun v w => ⟨v, w.1, fun w2 => absurd w2 (by decide)⟩⟩)⟩
    · obtain rfl : 4 = E := Option.some.inj hE
      refine ⟨23, 25, _, 0, rfl, rfl, rfl, ?_⟩
      refine aw_s 26 _ [.int (Int32.ofInt 3)] rfl rfl ?_
      exact aw_end rfl rfl rfl rfl aw_ri ⟨rfl, 3, by decide, rfl, az_wk q2 (fun o2 t2 w => ⟨w.1, w.2.1, w.2.2.elim fun v w => ⟨v, w.1, fun w2 => absurd w2 (by decide)⟩⟩)⟩
theorem wl_fog {L : Nat} {xs : Nat → Int32} {s : az_S} {h : Nat} {gl : Nat → Nat → Int64} {gd : Nat → Nat → UInt64} {a b : Int} (HC : zCs am_m_X9_fog am_m_X10_fog [az_i a, az_i b] [3, 1, 4] s h) : aw_R L xs 13 am_m_L_fog 0 (am_ini (am_mL am_m_L_fog) (List.map az_e [az_r 0, az_i a, az_i b, az_r 43])) [] s gl gd 1 (awP am_m_X10_fog [az_i a, az_i b] h gd) := by
  refine aw_s 1 (am_ini (am_mL am_m_L_fog) (List.map az_e [az_r 0, az_i a, az_i b, az_r 43])) (List.map az_e [az_r 43]) rfl rfl ?_
  refine aw_s 2 (am_ini (am_mL am_m_L_fog) (List.map az_e [az_r 0, az_i a, az_i b, az_r 43])) (List.map az_e [az_i 0, az_r 43]) rfl rfl ?_
  refine aw_s 3 (am_ini (am_mL am_m_L_fog) (List.map az_e [az_r 0, az_i a, az_i b, az_r 43])) (List.map az_e [az_r 0, az_i 0, az_r 43]) rfl rfl ?_
  refine aw_s 4 (am_ini (am_mL am_m_L_fog) (List.map az_e [az_r 0, az_i a, az_i b, az_r 43])) (List.map az_e [az_i a, az_r 0, az_i 0, az_r 43]) rfl rfl ?_
  refine aw_s 5 (am_ini (am_mL am_m_L_fog) (List.map az_e [az_r 0, az_i a, az_i b, az_r 43])) (List.map az_e [az_i b, az_i a, az_r 0, az_i 0, az_r 43]) rfl rfl ?_
  refine aw_c 8 (st := [az_i b, az_i a, az_r 0, az_i 0, az_r 43]) rfl rfl rfl HC (fun v t q => ?_) (fun E t q => ?_)
  · obtain ⟨v0, rfl, q2⟩ := awP_v (k := 0) q
    refine aw_s 9 (am_ini (am_mL am_m_L_fog) (List.map az_e [az_r 0, az_i a, az_i b, az_r 43])) [.long (Int32.ofInt v0).toInt64, .int (Int32.ofInt 0), .ref 43] rfl rfl ?_
    refine aw_h 10 [] t (am_up gl 43 0 (Int32.ofInt v0).toInt64) gd rfl rfl aw_ls rfl ?_
    refine aw_s 25 (am_ini (am_mL am_m_L_fog) (List.map az_e [az_r 0, az_i a, az_i b, az_r 43])) [] rfl rfl ?_
    refine aw_s 26 (am_ini (am_mL am_m_L_fog) (List.map az_e [az_r 0, az_i a, az_i b, az_r 43])) [.int (Int32.ofInt 0)] rfl rfl ?_
    exact aw_end rfl rfl rfl rfl aw_ri ⟨rfl, 0, by decide, rfl, az_wk q2 (fun o2 t2 w => ⟨w.1, w.2.1, v0, w.2.2, fun _ => rfl⟩)⟩
  · obtain ⟨j, hj, hE, q2⟩ := awP_E (by decide) q
    have hc : j = 0 ∨ j = 1 ∨ j = 2 := by omega
    rcases hc with rfl | rfl | rfl
    · obtain rfl : 3 = E := Option.some.inj hE
      refine ⟨13, 15, _, 0, rfl, rfl, rfl, ?_⟩
      refine aw_s 16 _ [.int (Int32.ofInt 1)] rfl rfl ?_
      exact aw_end rfl rfl rfl rfl aw_ri ⟨rfl, 1, by decide, rfl, az_wk q2 (fun o2 t2 w => ⟨w.1, w.2.1, w.2.2.elim fun v w => ⟨v, w.1, fun w2 => absurd w2 (by decide)⟩⟩)⟩
    · obtain rfl : 1 = E := Option.some.inj hE
      refine ⟨17, 19, _, 0, rfl, rfl, rfl, ?_⟩
      refine aw_s 20 _ [.int (Int32.ofInt 2)] rfl rfl ?_
      exact aw_end rfl rfl rfl rfl aw_ri ⟨rfl, 2, by decide, rfl, az_wk q2 (fun o2 t2 w => ⟨w.1, w.2.1, w.2.2.elim fun v w => ⟨v, w.1, fun w2 => absurd w2 (by decide)⟩⟩)⟩
    · obtain rfl : 4 = E := Option.some.inj hE
      refine ⟨21, 23, _, 0, rfl, rfl, rfl, ?_⟩
      refine aw_s 24 _ [.int (Int32.ofInt 3)] rfl rfl ?_
      exact aw_end rfl rfl rfl rfl aw_ri ⟨rfl, 3, by decide, rfl, az_wk q2 (fun o2 t2 w => ⟨w.1, w.2.1, w.2.2.elim fun v w => ⟨v, w.1, fun w2 => absurd w2 (by decide)⟩⟩)⟩
theorem wl_price {L : Nat} {xs : Nat → Int32} {s : az_S} {h : Nat} {gl : Nat → Nat → Int64} {gd : Nat → Nat → UInt64} {a b : Int} (HC : zCs am_m_X9_price am_m_X10_price [az_i a, az_i b] [3, 1, 4] s h) : aw_R L xs 13 am_m_L_price 0 (am_ini (am_mL am_m_L_price) (List.map az_e [az_r 0, az_i a, az_i b, az_r 43])) [] s gl gd 1 (awP am_m_X10_price [az_i a, az_i b] h gd) := by
  refine aw_s 1 (am_ini (am_mL am_m_L_price) (List.map az_e [az_r 0, az_i a, az_i b, az_r 43])) (List.map az_e [az_r 43]) rfl rfl ?_
  refine aw_s 2 (am_ini (am_mL am_m_L_price) (List.map az_e [az_r 0, az_i a, az_i b, az_r 43])) (List.map az_e [az_i 0, az_r 43]) rfl rfl ?_
  refine aw_s 3 (am_ini (am_mL am_m_L_price) (List.map az_e [az_r 0, az_i a, az_i b, az_r 43])) (List.map az_e [az_r 0, az_i 0, az_r 43]) rfl rfl ?_
  refine aw_s 4 (am_ini (am_mL am_m_L_price) (List.map az_e [az_r 0, az_i a, az_i b, az_r 43])) (List.map az_e [az_i a, az_r 0, az_i 0, az_r 43]) rfl rfl ?_
  refine aw_s 5 (am_ini (am_mL am_m_L_price) (List.map az_e [az_r 0, az_i a, az_i b, az_r 43])) (List.map az_e [az_i b, az_i a, az_r 0, az_i 0, az_r 43]) rfl rfl ?_
  refine aw_c 8 (st := [az_i b, az_i a, az_r 0, az_i 0, az_r 43]) rfl rfl rfl HC (fun v t q => ?_) (fun E t q => ?_)
  · obtain ⟨v0, rfl, q2⟩ := awP_v (k := 0) q
    refine aw_s 9 (am_ini (am_mL am_m_L_price) (List.map az_e [az_r 0, az_i a, az_i b, az_r 43])) [.long (Int32.ofInt v0).toInt64, .int (Int32.ofInt 0), .ref 43] rfl rfl ?_
    refine aw_h 10 [] t (am_up gl 43 0 (Int32.ofInt v0).toInt64) gd rfl rfl aw_ls rfl ?_
    refine aw_s 25 (am_ini (am_mL am_m_L_price) (List.map az_e [az_r 0, az_i a, az_i b, az_r 43])) [] rfl rfl ?_
    refine aw_s 26 (am_ini (am_mL am_m_L_price) (List.map az_e [az_r 0, az_i a, az_i b, az_r 43])) [.int (Int32.ofInt 0)] rfl rfl ?_
    exact aw_end rfl rfl rfl rfl aw_ri ⟨rfl, 0, by decide, rfl, az_wk q2 (fun o2 t2 w => ⟨w.1, w.2.1, v0, w.2.2, fun _ => rfl⟩)⟩
  · obtain ⟨j, hj, hE, q2⟩ := awP_E (by decide) q
    have hc : j = 0 ∨ j = 1 ∨ j = 2 := by omega
    rcases hc with rfl | rfl | rfl
    · obtain rfl : 3 = E := Option.some.inj hE
      refine ⟨13, 15, _, 0, rfl, rfl, rfl, ?_⟩
      refine aw_s 16 _ [.int (Int32.ofInt 1)] rfl rfl ?_
      exact aw_end rfl rfl rfl rfl aw_ri ⟨rfl, 1, by decide, rfl, az_wk q2 (fun o2 t2 w => ⟨w.1, w.2.1, w.2.2.elim fun v w => ⟨v, w.1, fun w2 => absurd w2 (by decide)⟩⟩)⟩
    · obtain rfl : 1 = E := Option.some.inj hE
      refine ⟨17, 19, _, 0, rfl, rfl, rfl, ?_⟩
      refine aw_s 20 _ [.int (Int32.ofInt 2)] rfl rfl ?_
      exact aw_end rfl rfl rfl rfl aw_ri ⟨rfl, 2, by decide, rfl, az_wk q2 (fun o2 t2 w => ⟨w.1, w.2.1, w.2.2.elim fun v w => ⟨v, w.1, fun w2 => absurd w2 (by decide)⟩⟩)⟩
    · obtain rfl : 4 = E := Option.some.inj hE
      refine ⟨21, 23, _, 0, rfl, rfl, rfl, ?_⟩
      refine aw_s 24 _ [.int (Int32.ofInt 3)] rfl rfl ?_
      exact aw_end rfl rfl rfl rfl aw_ri ⟨rfl, 3, by decide, rfl, az_wk q2 (fun o2 t2 w => ⟨w.1, w.2.1, w.2.2.elim fun v w => ⟨v, w.1, fun w2 => absurd w2 (by decide)⟩⟩)⟩
theorem wl_cross {L : Nat} {xs : Nat → Int32} {s : az_S} {h : Nat} {gl : Nat → Nat → Int64} {gd : Nat → Nat → UInt64} {a b : Int} (HC : zCs am_m_X9_cross am_m_X10_cross [az_i a, az_i b] [3, 4] s h) : aw_R L xs 13 am_m_L_cross 0 (am_ini (am_mL am_m_L_cross) (List.map az_e [az_r 0, az_i a, az_i b, az_r 43])) [] s gl gd 1 (awP am_m_X10_cross [az_i a, az_i b] h gd) := by
  refine aw_s 1 (am_ini (am_mL am_m_L_cross) (List.map az_e [az_r 0, az_i a, az_i b, az_r 43])) (List.map az_e [az_r 43]) rfl rfl ?_
  refine aw_s 2 (am_ini (am_mL am_m_L_cross) (List.map az_e [az_r 0, az_i a, az_i b, az_r 43])) (List.map az_e [az_i 0, az_r 43]) rfl rfl ?_
  refine aw_s 3 (am_ini (am_mL am_m_L_cross) (List.map az_e [az_r 0, az_i a, az_i b, az_r 43])) (List.map az_e [az_r 0, az_i 0, az_r 43]) rfl rfl ?_
  refine aw_s 4 (am_ini (am_mL am_m_L_cross) (List.map az_e [az_r 0, az_i a, az_i b, az_r 43])) (List.map az_e [az_i a, az_r 0, az_i 0, az_r 43]) rfl rfl ?_
  refine aw_s 5 (am_ini (am_mL am_m_L_cross) (List.map az_e [az_r 0, az_i a, az_i b, az_r 43])) (List.map az_e [az_i b, az_i a, az_r 0, az_i 0, az_r 43]) rfl rfl ?_
  refine aw_c 8 (st := [az_i b, az_i a, az_r 0, az_i 0, az_r 43]) rfl rfl rfl HC (fun v t q => ?_) (fun E t q => ?_)
  · obtain ⟨v0, rfl, q2⟩ := awP_v (k := 0) q
    refine aw_s 9 (am_ini (am_mL am_m_L_cross) (List.map az_e [az_r 0, az_i a, az_i b, az_r 43])) [.long (Int32.ofInt v0).toInt64, .int (Int32.ofInt 0), .ref 43] rfl rfl ?_
    refine aw_h 10 [] t (am_up gl 43 0 (Int32.ofInt v0).toInt64) gd rfl rfl aw_ls rfl ?_
    refine aw_s 21 (am_ini (am_mL am_m_L_cross) (List.map az_e [az_r 0, az_i a, az_i b, az_r 43])) [] rfl rfl ?_
    refine aw_s 22 (am_ini (am_mL am_m_L_cross) (List.map az_e [az_r 0, az_i a, az_i b, az_r 43])) [.int (Int32.ofInt 0)] rfl rfl ?_
    exact aw_end rfl rfl rfl rfl aw_ri ⟨rfl, 0, by decide, rfl, az_wk q2 (fun o2 t2 w => ⟨w.1, w.2.1, v0, w.2.2, fun _ => rfl⟩)⟩
  · obtain ⟨j, hj, hE, q2⟩ := awP_E (by decide) q
    have hc : j = 0 ∨ j = 1 ∨ j = 2 := by omega
    rcases hc with rfl | rfl | rfl
    · obtain rfl : 3 = E := Option.some.inj hE
      refine ⟨13, 15, _, 0, rfl, rfl, rfl, ?_⟩
      refine aw_s 16 _ [.int (Int32.ofInt 1)] rfl rfl ?_
      exact aw_end rfl rfl rfl rfl aw_ri ⟨rfl, 1, by decide, rfl, az_wk q2 (fun o2 t2 w => ⟨w.1, w.2.1, w.2.2.elim fun v w => ⟨v, w.1, fun w2 => absurd w2 (by decide)⟩⟩)⟩
    · obtain rfl : 4 = E := Option.some.inj hE
      refine ⟨17, 19, _, 0, rfl, rfl, rfl, ?_⟩
      refine aw_s 20 _ [.int (Int32.ofInt 2)] rfl rfl ?_
      exact aw_end rfl rfl rfl rfl aw_ri ⟨rfl, 2, by decide, rfl, az_wk q2 (fun o2 t2 w => ⟨w.1, w.2.1, w.2.2.elim fun v w => ⟨v, w.1, fun w2 => absurd w2 (by decide)⟩⟩)⟩
    · exact absurd (show (none : Option Nat) = some E from hE) (fun w => by cases w)
theorem wl_dispute {L : Nat} {xs : Nat → Int32} {s : az_S} {h : Nat} {gl : Nat → Nat → Int64} {gd : Nat → Nat → UInt64} {a b : Int} (HC : zCs am_m_X9_dispute am_m_X10_dispute [az_i a, az_i b] [3, 4] s h) : aw_R L xs 13 am_m_L_dispute 0 (am_ini (am_mL am_m_L_dispute) (List.map az_e [az_r 0, az_i a, az_i b, az_r 43])) [] s gl gd 1 (awP am_m_X10_dispute [az_i a, az_i b] h gd) := by
  refine aw_s 1 (am_ini (am_mL am_m_L_dispute) (List.map az_e [az_r 0, az_i a, az_i b, az_r 43])) (List.map az_e [az_r 43]) rfl rfl ?_
  refine aw_s 2 (am_ini (am_mL am_m_L_dispute) (List.map az_e [az_r 0, az_i a, az_i b, az_r 43])) (List.map az_e [az_i 0, az_r 43]) rfl rfl ?_
  refine aw_s 3 (am_ini (am_mL am_m_L_dispute) (List.map az_e [az_r 0, az_i a, az_i b, az_r 43])) (List.map az_e [az_r 0, az_i 0, az_r 43]) rfl rfl ?_
  refine aw_s 4 (am_ini (am_mL am_m_L_dispute) (List.map az_e [az_r 0, az_i a, az_i b, az_r 43])) (List.map az_e [az_i a, az_r 0, az_i 0, az_r 43]) rfl rfl ?_
  refine aw_s 5 (am_ini (am_mL am_m_L_dispute) (List.map az_e [az_r 0, az_i a, az_i b, az_r 43])) (List.map az_e [az_i b, az_i a, az_r 0, az_i 0, az_r 43]) rfl rfl ?_
  refine aw_c 8 (st := [az_i b, az_i a, az_r 0, az_i 0, az_r 43]) rfl rfl rfl HC (fun v t q => ?_) (fun E t q => ?_)
  · obtain ⟨v0, rfl, q2⟩ := awP_v (k := 0) q
    refine aw_s 9 (am_ini (am_mL am_m_L_dispute) (List.map az_e [az_r 0, az_i a, az_i b, az_r 43])) [.long (Int32.ofInt v0).toInt64, .int (Int32.ofInt 0), .ref 43] rfl rfl ?_
    refine aw_h 10 [] t (am_up gl 43 0 (Int32.ofInt v0).toInt64) gd rfl rfl aw_ls rfl ?_
    refine aw_s 21 (am_ini (am_mL am_m_L_dispute) (List.map az_e [az_r 0, az_i a, az_i b, az_r 43])) [] rfl rfl ?_
    refine aw_s 22 (am_ini (am_mL am_m_L_dispute) (List.map az_e [az_r 0, az_i a, az_i b, az_r 43])) [.int (Int32.ofInt 0)] rfl rfl ?_
    exact aw_end rfl rfl rfl rfl aw_ri ⟨rfl, 0, by decide, rfl, az_wk q2 (fun o2 t2 w => ⟨w.1, w.2.1, v0, w.2.2, fun _ => rfl⟩)⟩
  · obtain ⟨j, hj, hE, q2⟩ := awP_E (by decide) q
    have hc : j = 0 ∨ j = 1 ∨ j = 2 := by omega
    rcases hc with rfl | rfl | rfl
    · obtain rfl : 3 = E := Option.some.inj hE
      refine ⟨13, 15, _, 0, rfl, rfl, rfl, ?_⟩
      refine aw_s 16 _ [.int (Int32.ofInt 1)] rfl rfl ?_
      exact aw_end rfl rfl rfl rfl aw_ri ⟨rfl, 1, by decide, rfl, az_wk q2 (fun o2 t2 w => ⟨w.1, w.2.1, w.2.2.elim fun v w => ⟨v, w.1, fun w2 => absurd w2 (by decide)⟩⟩)⟩
    · obtain rfl : 4 = E := Option.some.inj hE
      refine ⟨17, 19, _, 0, rfl, rfl, rfl, ?_⟩
      refine aw_s 20 _ [.int (Int32.ofInt 2)] rfl rfl ?_
      exact aw_end rfl rfl rfl rfl aw_ri ⟨rfl, 2, by decide, rfl, az_wk q2 (fun o2 t2 w => ⟨w.1, w.2.1, w.2.2.elim fun v w => ⟨v, w.1, fun w2 => absurd w2 (by decide)⟩⟩)⟩
    · exact absurd (show (none : Option Nat) = some E from hE) (fun w => by cases w)
theorem wl_settle {L : Nat} {xs : Nat → Int32} {s : az_S} {h : Nat} {gl : Nat → Nat → Int64} {gd : Nat → Nat → UInt64} {a b : Int} (HC : zCs am_m_X9_settle am_m_X10_settle [az_i a, az_i b] [3, 4] s h) : aw_R L xs 13 am_m_L_settle 0 (am_ini (am_mL am_m_L_settle) (List.map az_e [az_r 0, az_i a, az_i b, az_r 43])) [] s gl gd 1 (awP am_m_X10_settle [az_i a, az_i b] h gd) := by
  refine aw_s 1 (am_ini (am_mL am_m_L_settle) (List.map az_e [az_r 0, az_i a, az_i b, az_r 43])) (List.map az_e [az_r 43]) rfl rfl ?_
  refine aw_s 2 (am_ini (am_mL am_m_L_settle) (List.map az_e [az_r 0, az_i a, az_i b, az_r 43])) (List.map az_e [az_i 0, az_r 43]) rfl rfl ?_
  refine aw_s 3 (am_ini (am_mL am_m_L_settle) (List.map az_e [az_r 0, az_i a, az_i b, az_r 43])) (List.map az_e [az_r 0, az_i 0, az_r 43]) rfl rfl ?_
  refine aw_s 4 (am_ini (am_mL am_m_L_settle) (List.map az_e [az_r 0, az_i a, az_i b, az_r 43])) (List.map az_e [az_i a, az_r 0, az_i 0, az_r 43]) rfl rfl ?_
  refine aw_s 5 (am_ini (am_mL am_m_L_settle) (List.map az_e [az_r 0, az_i a, az_i b, az_r 43])) (List.map az_e [az_i b, az_i a, az_r 0, az_i 0, az_r 43]) rfl rfl ?_
  refine aw_c 8 (st := [az_i b, az_i a, az_r 0, az_i 0, az_r 43]) rfl rfl rfl HC (fun v t q => ?_) (fun E t q => ?_)
  · obtain ⟨v0, rfl, q2⟩ := awP_v (k := 0) q
    refine aw_s 9 (am_ini (am_mL am_m_L_settle) (List.map az_e [az_r 0, az_i a, az_i b, az_r 43])) [.long (Int32.ofInt v0).toInt64, .int (Int32.ofInt 0), .ref 43] rfl rfl ?_
    refine aw_h 10 [] t (am_up gl 43 0 (Int32.ofInt v0).toInt64) gd rfl rfl aw_ls rfl ?_
    refine aw_s 21 (am_ini (am_mL am_m_L_settle) (List.map az_e [az_r 0, az_i a, az_i b, az_r 43])) [] rfl rfl ?_
    refine aw_s 22 (am_ini (am_mL am_m_L_settle) (List.map az_e [az_r 0, az_i a, az_i b, az_r 43])) [.int (Int32.ofInt 0)] rfl rfl ?_
    exact aw_end rfl rfl rfl rfl aw_ri ⟨rfl, 0, by decide, rfl, az_wk q2 (fun o2 t2 w => ⟨w.1, w.2.1, v0, w.2.2, fun _ => rfl⟩)⟩
  · obtain ⟨j, hj, hE, q2⟩ := awP_E (by decide) q
    have hc : j = 0 ∨ j = 1 ∨ j = 2 := by omega
    rcases hc with rfl | rfl | rfl
    · obtain rfl : 3 = E := Option.some.inj hE
      refine ⟨13, 15, _, 0, rfl, rfl, rfl, ?_⟩
      refine aw_s 16 _ [.int (Int32.ofInt 1)] rfl rfl ?_
      exact aw_end rfl rfl rfl rfl aw_ri ⟨rfl, 1, by decide, rfl, az_wk q2 (fun o2 t2 w => ⟨w.1, w.2.1, w.2.2.elim fun v w => ⟨v, w.1, fun w2 => absurd w2 (by decide)⟩⟩)⟩
    · obtain rfl : 4 = E := Option.some.inj hE
      refine ⟨17, 19, _, 0, rfl, rfl, rfl, ?_⟩
      refine aw_s 20 _ [.int (Int32.ofInt 2)] rfl rfl ?_
      exact aw_end rfl rfl rfl rfl aw_ri ⟨rfl, 2, by decide, rfl, az_wk q2 (fun o2 t2 w => ⟨w.1, w.2.1, w.2.2.elim fun v w => ⟨v, w.1, fun w2 => absurd w2 (by decide)⟩⟩)⟩
    · exact absurd (show (none : Option Nat) = some E from hE) (fun w => by cases w)
theorem wl_strike {L : Nat} {xs : Nat → Int32} {s : az_S} {h : Nat} {gl : Nat → Nat → Int64} {gd : Nat → Nat → UInt64} {a b : Int} (HC : zCs am_m_X9_strike am_m_X10_strike [az_i a, az_i b] [3, 4] s h) : aw_R L xs 13 am_m_L_strike 0 (am_ini (am_mL am_m_L_strike) (List.map az_e [az_r 0, az_i a, az_i b, az_r 43])) [] s gl gd 1 (awP am_m_X10_strike [az_i a, az_i b] h gd) := by
  refine aw_s 1 (am_ini (am_mL am_m_L_strike) (List.map az_e [az_r 0, az_i a, az_i b, az_r 43])) (List.map az_e [az_r 43]) rfl rfl ?_
  refine aw_s 2 (am_ini (am_mL am_m_L_strike) (List.map az_e [az_r 0, az_i a, az_i b, az_r 43])) (List.map az_e [az_i 0, az_r 43]) rfl rfl ?_
  refine aw_s 3 (am_ini (am_mL am_m_L_strike) (List.map az_e [az_r 0, az_i a, az_i b, az_r 43])) (List.map az_e [az_r 0, az_i 0, az_r 43]) rfl rfl ?_
  refine aw_s 4 (am_ini (am_mL am_m_L_strike) (List.map az_e [az_r 0, az_i a, az_i b, az_r 43])) (List.map az_e [az_i a, az_r 0, az_i 0, az_r 43]) rfl rfl ?_
  refine aw_s 5 (am_ini (am_mL am_m_L_strike) (List.map az_e [az_r 0, az_i a, az_i b, az_r 43])) (List.map az_e [az_i b, az_i a, az_r 0, az_i 0, az_r 43]) rfl rfl ?_
  refine aw_c 8 (st := [az_i b, az_i a, az_r 0, az_i 0, az_r 43]) rfl rfl rfl HC (fun v t q => ?_) (fun E t q => ?_)
  · obtain ⟨v0, rfl, q2⟩ := awP_v (k := 0) q
    refine aw_s 9 (am_ini (am_mL am_m_L_strike) (List.map az_e [az_r 0, az_i a, az_i b, az_r 43])) [.long (Int32.ofInt v0).toInt64, .int (Int32.ofInt 0), .ref 43] rfl rfl ?_
    refine aw_h 10 [] t (am_up gl 43 0 (Int32.ofInt v0).toInt64) gd rfl rfl aw_ls rfl ?_
    refine aw_s 21 (am_ini (am_mL am_m_L_strike) (List.map az_e [az_r 0, az_i a, az_i b, az_r 43])) [] rfl rfl ?_
    refine aw_s 22 (am_ini (am_mL am_m_L_strike) (List.map az_e [az_r 0, az_i a, az_i b, az_r 43])) [.int (Int32.ofInt 0)] rfl rfl ?_
    exact aw_end rfl rfl rfl rfl aw_ri ⟨rfl, 0, by decide, rfl, az_wk q2 (fun o2 t2 w => ⟨w.1, w.2.1, v0, w.2.2, fun _ => rfl⟩)⟩
  · obtain ⟨j, hj, hE, q2⟩ := awP_E (by decide) q
    have hc : j = 0 ∨ j = 1 ∨ j = 2 := by omega
    rcases hc with rfl | rfl | rfl
    · obtain rfl : 3 = E := Option.some.inj hE
      refine ⟨13, 15, _, 0, rfl, rfl, rfl, ?_⟩
      refine aw_s 16 _ [.int (Int32.ofInt 1)] rfl rfl ?_
      exact aw_end rfl rfl rfl rfl aw_ri ⟨rfl, 1, by decide, rfl, az_wk q2 (fun o2 t2 w => ⟨w.1, w.2.1, w.2.2.elim fun v w => ⟨v, w.1, fun w2 => absurd w2 (by decide)⟩⟩)⟩
    · obtain rfl : 4 = E := Option.some.inj hE
      refine ⟨17, 19, _, 0, rfl, rfl, rfl, ?_⟩
      refine aw_s 20 _ [.int (Int32.ofInt 2)] rfl rfl ?_
      exact aw_end rfl rfl rfl rfl aw_ri ⟨rfl, 2, by decide, rfl, az_wk q2 (fun o2 t2 w => ⟨w.1, w.2.1, w.2.2.elim fun v w => ⟨v, w.1, fun w2 => absurd w2 (by decide)⟩⟩)⟩
    · exact absurd (show (none : Option Nat) = some E from hE) (fun w => by cases w)
theorem wl_pass {L : Nat} {xs : Nat → Int32} {s : az_S} {h : Nat} {gl : Nat → Nat → Int64} {gd : Nat → Nat → UInt64} {a : Int} (HC : zCs am_m_X9_pass am_m_X10_pass [az_i a] [1] s h) : aw_R L xs 13 am_m_L_pass 0 (am_ini (am_mL am_m_L_pass) (List.map az_e [az_r 0, az_i a, az_r 43])) [] s gl gd 1 (awP am_m_X10_pass [az_i a] h gd) := by
  refine aw_s 1 (am_ini (am_mL am_m_L_pass) (List.map az_e [az_r 0, az_i a, az_r 43])) (List.map az_e [az_r 43]) rfl rfl ?_
  refine aw_s 2 (am_ini (am_mL am_m_L_pass) (List.map az_e [az_r 0, az_i a, az_r 43])) (List.map az_e [az_i 0, az_r 43]) rfl rfl ?_
  refine aw_s 3 (am_ini (am_mL am_m_L_pass) (List.map az_e [az_r 0, az_i a, az_r 43])) (List.map az_e [az_r 0, az_i 0, az_r 43]) rfl rfl ?_
  refine aw_s 4 (am_ini (am_mL am_m_L_pass) (List.map az_e [az_r 0, az_i a, az_r 43])) (List.map az_e [az_i a, az_r 0, az_i 0, az_r 43]) rfl rfl ?_
  refine aw_c 7 (st := [az_i a, az_r 0, az_i 0, az_r 43]) rfl rfl rfl HC (fun v t q => ?_) (fun E t q => ?_)
  · obtain ⟨v0, rfl, q2⟩ := awP_v (k := 0) q
    refine aw_s 8 (am_ini (am_mL am_m_L_pass) (List.map az_e [az_r 0, az_i a, az_r 43])) [.long (Int32.ofInt v0).toInt64, .int (Int32.ofInt 0), .ref 43] rfl rfl ?_
    refine aw_h 9 [] t (am_up gl 43 0 (Int32.ofInt v0).toInt64) gd rfl rfl aw_ls rfl ?_
    refine aw_s 15 (am_ini (am_mL am_m_L_pass) (List.map az_e [az_r 0, az_i a, az_r 43])) [] rfl rfl ?_
    refine aw_s 16 (am_ini (am_mL am_m_L_pass) (List.map az_e [az_r 0, az_i a, az_r 43])) [.int (Int32.ofInt 0)] rfl rfl ?_
    exact aw_end rfl rfl rfl rfl aw_ri ⟨rfl, 0, by decide, rfl, az_wk q2 (fun o2 t2 w => ⟨w.1, w.2.1, v0, w.2.2, fun _ => rfl⟩)⟩
  · obtain ⟨j, hj, hE, q2⟩ := awP_E (by decide) q
    have hc : j = 0 ∨ j = 1 ∨ j = 2 := by omega
    rcases hc with rfl | rfl | rfl
    · obtain rfl : 1 = E := Option.some.inj hE
      refine ⟨12, 13, _, 0, rfl, rfl, rfl, ?_⟩
      refine aw_s 14 _ [.int (Int32.ofInt 1)] rfl rfl ?_
      exact aw_end rfl rfl rfl rfl aw_ri ⟨rfl, 1, by decide, rfl, az_wk q2 (fun o2 t2 w => ⟨w.1, w.2.1, w.2.2.elim fun v w => ⟨v, w.1, fun w2 => absurd w2 (by decide)⟩⟩)⟩
    · exact absurd (show (none : Option Nat) = some E from hE) (fun w => by cases w)
    · exact absurd (show (none : Option Nat) = some E from hE) (fun w => by cases w)
theorem wl_bridgeOf {L : Nat} {xs : Nat → Int32} {s : az_S} {h : Nat} {gl : Nat → Nat → Int64} {gd : Nat → Nat → UInt64} {a b : Int} (HC : zCs am_m_X9_bridgeOf am_m_X10_bridgeOf [az_i a, az_i b] [3, 1] s h) : aw_R L xs 13 am_m_L_bridgeOf 0 (am_ini (am_mL am_m_L_bridgeOf) (List.map az_e [az_r 0, az_i a, az_i b, az_r 43])) [] s gl gd 1 (awP am_m_X10_bridgeOf [az_i a, az_i b] h gd) := by
  refine aw_s 1 (am_ini (am_mL am_m_L_bridgeOf) (List.map az_e [az_r 0, az_i a, az_i b, az_r 43])) (List.map az_e [az_r 43]) rfl rfl ?_
  refine aw_s 2 (am_ini (am_mL am_m_L_bridgeOf) (List.map az_e [az_r 0, az_i a, az_i b, az_r 43])) (List.map az_e [az_i 0, az_r 43]) rfl rfl ?_
  refine aw_s 3 (am_ini (am_mL am_m_L_bridgeOf) (List.map az_e [az_r 0, az_i a, az_i b, az_r 43])) (List.map az_e [az_r 0, az_i 0, az_r 43]) rfl rfl ?_
  refine aw_s 4 (am_ini (am_mL am_m_L_bridgeOf) (List.map az_e [az_r 0, az_i a, az_i b, az_r 43])) (List.map az_e [az_i a, az_r 0, az_i 0, az_r 43]) rfl rfl ?_
  refine aw_s 5 (am_ini (am_mL am_m_L_bridgeOf) (List.map az_e [az_r 0, az_i a, az_i b, az_r 43])) (List.map az_e [az_i b, az_i a, az_r 0, az_i 0, az_r 43]) rfl rfl ?_
  refine aw_c 8 (st := [az_i b, az_i a, az_r 0, az_i 0, az_r 43]) rfl rfl rfl HC (fun v t q => ?_) (fun E t q => ?_)
  · obtain ⟨v0, rfl, q2⟩ := awP_v (k := 0) q
    refine aw_s 9 (am_ini (am_mL am_m_L_bridgeOf) (List.map az_e [az_r 0, az_i a, az_i b, az_r 43])) [.long (Int32.ofInt v0).toInt64, .int (Int32.ofInt 0), .ref 43] rfl rfl ?_
    refine aw_h 10 [] t (am_up gl 43 0 (Int32.ofInt v0).toInt64) gd rfl rfl aw_ls rfl ?_
    refine aw_s 21 (am_ini (am_mL am_m_L_bridgeOf) (List.map az_e [az_r 0, az_i a, az_i b, az_r 43])) [] rfl rfl ?_
    refine aw_s 22 (am_ini (am_mL am_m_L_bridgeOf) (List.map az_e [az_r 0, az_i a, az_i b, az_r 43])) [.int (Int32.ofInt 0)] rfl rfl ?_
    exact aw_end rfl rfl rfl rfl aw_ri ⟨rfl, 0, by decide, rfl, az_wk q2 (fun o2 t2 w => ⟨w.1, w.2.1, v0, w.2.2, fun _ => rfl⟩)⟩
  · obtain ⟨j, hj, hE, q2⟩ := awP_E (by decide) q
    have hc : j = 0 ∨ j = 1 ∨ j = 2 := by omega
    rcases hc with rfl | rfl | rfl
    · obtain rfl : 3 = E := Option.some.inj hE
      refine ⟨13, 15, _, 0, rfl, rfl, rfl, ?_⟩
      refine aw_s 16 _ [.int (Int32.ofInt 1)] rfl rfl ?_
      exact aw_end rfl rfl rfl rfl aw_ri ⟨rfl, 1, by decide, rfl, az_wk q2 (fun o2 t2 w => ⟨w.1, w.2.1, w.2.2.elim fun v w => ⟨v, w.1, fun w2 => absurd w2 (by decide)⟩⟩)⟩
    · obtain rfl : 1 = E := Option.some.inj hE
      refine ⟨17, 19, _, 0, rfl, rfl, rfl, ?_⟩
      refine aw_s 20 _ [.int (Int32.ofInt 2)] rfl rfl ?_
      exact aw_end rfl rfl rfl rfl aw_ri ⟨rfl, 2, by decide, rfl, az_wk q2 (fun o2 t2 w => ⟨w.1, w.2.1, w.2.2.elim fun v w => ⟨v, w.1, fun w2 => absurd w2 (by decide)⟩⟩)⟩
    · exact absurd (show (none : Option Nat) = some E from hE) (fun w => by cases w)
theorem wl_trollOf {L : Nat} {xs : Nat → Int32} {s : az_S} {h : Nat} {gl : Nat → Nat → Int64} {gd : Nat → Nat → UInt64} {a b : Int} (HC : zCs am_m_X9_trollOf am_m_X10_trollOf [az_i a, az_i b] [3, 1] s h) : aw_R L xs 13 am_m_L_trollOf 0 (am_ini (am_mL am_m_L_trollOf) (List.map az_e [az_r 0, az_i a, az_i b, az_r 43])) [] s gl gd 1 (awP am_m_X10_trollOf [az_i a, az_i b] h gd) := by
  refine aw_s 1 (am_ini (am_mL am_m_L_trollOf) (List.map az_e [az_r 0, az_i a, az_i b, az_r 43])) (List.map az_e [az_r 43]) rfl rfl ?_
  refine aw_s 2 (am_ini (am_mL am_m_L_trollOf) (List.map az_e [az_r 0, az_i a, az_i b, az_r 43])) (List.map az_e [az_i 0, az_r 43]) rfl rfl ?_
  refine aw_s 3 (am_ini (am_mL am_m_L_trollOf) (List.map az_e [az_r 0, az_i a, az_i b, az_r 43])) (List.map az_e [az_r 0, az_i 0, az_r 43]) rfl rfl ?_
  refine aw_s 4 (am_ini (am_mL am_m_L_trollOf) (List.map az_e [az_r 0, az_i a, az_i b, az_r 43])) (List.map az_e [az_i a, az_r 0, az_i 0, az_r 43]) rfl rfl ?_
  refine aw_s 5 (am_ini (am_mL am_m_L_trollOf) (List.map az_e [az_r 0, az_i a, az_i b, az_r 43])) (List.map az_e [az_i b, az_i a, az_r 0, az_i 0, az_r 43]) rfl rfl ?_
  refine aw_c 8 (st := [az_i b, az_i a, az_r 0, az_i 0, az_r 43]) rfl rfl rfl HC (fun v t q => ?_) (fun E t q => ?_)
  · obtain ⟨v0, rfl, q2⟩ := awP_v (k := 0) q
    refine aw_s 9 (am_ini (am_mL am_m_L_trollOf) (List.map az_e [az_r 0, az_i a, az_i b, az_r 43])) [.long (Int32.ofInt v0).toInt64, .int (Int32.ofInt 0), .ref 43] rfl rfl ?_
    refine aw_h 10 [] t (am_up gl 43 0 (Int32.ofInt v0).toInt64) gd rfl rfl aw_ls rfl ?_
    refine aw_s 21 (am_ini (am_mL am_m_L_trollOf) (List.map az_e [az_r 0, az_i a, az_i b, az_r 43])) [] rfl rfl ?_
    refine aw_s 22 (am_ini (am_mL am_m_L_trollOf) (List.map az_e [az_r 0, az_i a, az_i b, az_r 43])) [.int (Int32.ofInt 0)] rfl rfl ?_
    exact aw_end rfl rfl rfl rfl aw_ri ⟨rfl, 0, by decide, rfl, az_wk q2 (fun o2 t2 w => ⟨w.1, w.2.1, v0, w.2.2, fun _ => rfl⟩)⟩
  · obtain ⟨j, hj, hE, q2⟩ := awP_E (by decide) q
    have hc : j = 0 ∨ j = 1 ∨ j = 2 := by omega
    rcases hc with rfl | rfl | rfl
    · obtain rfl : 3 = E := Option.some.inj hE
      refine ⟨13, 15, _, 0, rfl, rfl, rfl, ?_⟩
      refine aw_s 16 _ [.int (Int32.ofInt 1)] rfl rfl ?_
      exact aw_end rfl rfl rfl rfl aw_ri ⟨rfl, 1, by decide, rfl, az_wk q2 (fun o2 t2 w => ⟨w.1, w.2.1, w.2.2.elim fun v w => ⟨v, w.1, fun w2 => absurd w2 (by decide)⟩⟩)⟩
    · obtain rfl : 1 = E := Option.some.inj hE
      refine ⟨17, 19, _, 0, rfl, rfl, rfl, ?_⟩
      refine aw_s 20 _ [.int (Int32.ofInt 2)] rfl rfl ?_
      exact aw_end rfl rfl rfl rfl aw_ri ⟨rfl, 2, by decide, rfl, az_wk q2 (fun o2 t2 w => ⟨w.1, w.2.1, w.2.2.elim fun v w => ⟨v, w.1, fun w2 => absurd w2 (by decide)⟩⟩)⟩
    · exact absurd (show (none : Option Nat) = some E from hE) (fun w => by cases w)
theorem wl_goatOf {L : Nat} {xs : Nat → Int32} {s : az_S} {h : Nat} {gl : Nat → Nat → Int64} {gd : Nat → Nat → UInt64} {a b : Int} (HC : zCs am_m_X9_goatOf am_m_X10_goatOf [az_i a, az_i b] [3, 1] s h) : aw_R L xs 13 am_m_L_goatOf 0 (am_ini (am_mL am_m_L_goatOf) (List.map az_e [az_r 0, az_i a, az_i b, az_r 43])) [] s gl gd 1 (awP am_m_X10_goatOf [az_i a, az_i b] h gd) := by
  refine aw_s 1 (am_ini (am_mL am_m_L_goatOf) (List.map az_e [az_r 0, az_i a, az_i b, az_r 43])) (List.map az_e [az_r 43]) rfl rfl ?_
  refine aw_s 2 (am_ini (am_mL am_m_L_goatOf) (List.map az_e [az_r 0, az_i a, az_i b, az_r 43])) (List.map az_e [az_i 0, az_r 43]) rfl rfl ?_
  refine aw_s 3 (am_ini (am_mL am_m_L_goatOf) (List.map az_e [az_r 0, az_i a, az_i b, az_r 43])) (List.map az_e [az_r 0, az_i 0, az_r 43]) rfl rfl ?_
  refine aw_s 4 (am_ini (am_mL am_m_L_goatOf) (List.map az_e [az_r 0, az_i a, az_i b, az_r 43])) (List.map az_e [az_i a, az_r 0, az_i 0, az_r 43]) rfl rfl ?_
  refine aw_s 5 (am_ini (am_mL am_m_L_goatOf) (List.map az_e [az_r 0, az_i a, az_i b, az_r 43])) (List.map az_e [az_i b, az_i a, az_r 0, az_i 0, az_r 43]) rfl rfl ?_
  refine aw_c 8 (st := [az_i b, az_i a, az_r 0, az_i 0, az_r 43]) rfl rfl rfl HC (fun v t q => ?_) (fun E t q => ?_)
  · obtain ⟨v0, rfl, q2⟩ := awP_v (k := 0) q
    refine aw_s 9 (am_ini (am_mL am_m_L_goatOf) (List.map az_e [az_r 0, az_i a, az_i b, az_r 43])) [.long (Int32.ofInt v0).toInt64, .int (Int32.ofInt 0), .ref 43] rfl rfl ?_
    refine aw_h 10 [] t (am_up gl 43 0 (Int32.ofInt v0).toInt64) gd rfl rfl aw_ls rfl ?_
    refine aw_s 21 (am_ini (am_mL am_m_L_goatOf) (List.map az_e [az_r 0, az_i a, az_i b, az_r 43])) [] rfl rfl ?_
    refine aw_s 22 (am_ini (am_mL am_m_L_goatOf) (List.map az_e [az_r 0, az_i a, az_i b, az_r 43])) [.int (Int32.ofInt 0)] rfl rfl ?_
    exact aw_end rfl rfl rfl rfl aw_ri ⟨rfl, 0, by decide, rfl, az_wk q2 (fun o2 t2 w => ⟨w.1, w.2.1, v0, w.2.2, fun _ => rfl⟩)⟩
  · obtain ⟨j, hj, hE, q2⟩ := awP_E (by decide) q
    have hc : j = 0 ∨ j = 1 ∨ j = 2 := by omega
    rcases hc with rfl | rfl | rfl
    · obtain rfl : 3 = E := Option.some.inj hE
      refine ⟨13, 15, _, 0, rfl, rfl, rfl, ?_⟩
      refine aw_s 16 _ [.int (Int32.ofInt 1)] rfl rfl ?_
      exact aw_end rfl rfl rfl rfl aw_ri ⟨rfl, 1, by decide, rfl, az_wk q2 (fun o2 t2 w => ⟨w.1, w.2.1, w.2.2.elim fun v w => ⟨v, w.1, fun w2 => absurd w2 (by decide)⟩⟩)⟩
    · obtain rfl : 1 = E := Option.some.inj hE
      refine ⟨17, 19, _, 0, rfl, rfl, rfl, ?_⟩
      refine aw_s 20 _ [.int (Int32.ofInt 2)] rfl rfl ?_
      exact aw_end rfl rfl rfl rfl aw_ri ⟨rfl, 2, by decide, rfl, az_wk q2 (fun o2 t2 w => ⟨w.1, w.2.1, w.2.2.elim fun v w => ⟨v, w.1, fun w2 => absurd w2 (by decide)⟩⟩)⟩
    · exact absurd (show (none : Option Nat) = some E from hE) (fun w => by cases w)
theorem wl_due {L : Nat} {xs : Nat → Int32} {s : az_S} {h : Nat} {gl : Nat → Nat → Int64} {gd : Nat → Nat → UInt64} {a : Int} (HC : zCs am_m_X9_due am_m_X10_due [az_i a] [3] s h) : aw_R L xs 13 am_m_L_due 0 (am_ini (am_mL am_m_L_due) (List.map az_e [az_r 0, az_i a, az_r 43])) [] s gl gd 1 (awP am_m_X10_due [az_i a] h gd) := by
  refine aw_s 1 (am_ini (am_mL am_m_L_due) (List.map az_e [az_r 0, az_i a, az_r 43])) (List.map az_e [az_r 43]) rfl rfl ?_
  refine aw_s 2 (am_ini (am_mL am_m_L_due) (List.map az_e [az_r 0, az_i a, az_r 43])) (List.map az_e [az_i 0, az_r 43]) rfl rfl ?_
  refine aw_s 3 (am_ini (am_mL am_m_L_due) (List.map az_e [az_r 0, az_i a, az_r 43])) (List.map az_e [az_r 0, az_i 0, az_r 43]) rfl rfl ?_
  refine aw_s 4 (am_ini (am_mL am_m_L_due) (List.map az_e [az_r 0, az_i a, az_r 43])) (List.map az_e [az_i a, az_r 0, az_i 0, az_r 43]) rfl rfl ?_
  refine aw_c 7 (st := [az_i a, az_r 0, az_i 0, az_r 43]) rfl rfl rfl HC (fun v t q => ?_) (fun E t q => ?_)
  · obtain ⟨v0, rfl, q2⟩ := awP_v (k := 0) q
    refine aw_s 8 (am_ini (am_mL am_m_L_due) (List.map az_e [az_r 0, az_i a, az_r 43])) [.long (Int32.ofInt v0).toInt64, .int (Int32.ofInt 0), .ref 43] rfl rfl ?_
    refine aw_h 9 [] t (am_up gl 43 0 (Int32.ofInt v0).toInt64) gd rfl rfl aw_ls rfl ?_
    refine aw_s 15 (am_ini (am_mL am_m_L_due) (List.map az_e [az_r 0, az_i a, az_r 43])) [] rfl rfl ?_
    refine aw_s 16 (am_ini (am_mL am_m_L_due) (List.map az_e [az_r 0, az_i a, az_r 43])) [.int (Int32.ofInt 0)] rfl rfl ?_
    exact aw_end rfl rfl rfl rfl aw_ri ⟨rfl, 0, by decide, rfl, az_wk q2 (fun o2 t2 w => ⟨w.1, w.2.1, v0, w.2.2, fun _ => rfl⟩)⟩
  · obtain ⟨j, hj, hE, q2⟩ := awP_E (by decide) q
    have hc : j = 0 ∨ j = 1 ∨ j = 2 := by omega
    rcases hc with rfl | rfl | rfl
    · obtain rfl : 3 = E := Option.some.inj hE
      refine ⟨12, 13, _, 0, rfl, rfl, rfl, ?_⟩
      refine aw_s 14 _ [.int (Int32.ofInt 1)] rfl rfl ?_
      exact aw_end rfl rfl rfl rfl aw_ri ⟨rfl, 1, by decide, rfl, az_wk q2 (fun o2 t2 w => ⟨w.1, w.2.1, w.2.2.elim fun v w => ⟨v, w.1, fun w2 => absurd w2 (by decide)⟩⟩)⟩
    · exact absurd (show (none : Option Nat) = some E from hE) (fun w => by cases w)
    · exact absurd (show (none : Option Nat) = some E from hE) (fun w => by cases w)
theorem wl_takes {L : Nat} {xs : Nat → Int32} {s : az_S} {h : Nat} {gl : Nat → Nat → Int64} {gd : Nat → Nat → UInt64} {a : Int} (HC : zCs am_m_X9_takes am_m_X10_takes [az_i a] [3] s h) : aw_R L xs 13 am_m_L_takes 0 (am_ini (am_mL am_m_L_takes) (List.map az_e [az_r 0, az_i a, az_r 43])) [] s gl gd 1 (awP am_m_X10_takes [az_i a] h gd) := by
  refine aw_s 1 (am_ini (am_mL am_m_L_takes) (List.map az_e [az_r 0, az_i a, az_r 43])) (List.map az_e [az_r 43]) rfl rfl ?_
  refine aw_s 2 (am_ini (am_mL am_m_L_takes) (List.map az_e [az_r 0, az_i a, az_r 43])) (List.map az_e [az_i 0, az_r 43]) rfl rfl ?_
  refine aw_s 3 (am_ini (am_mL am_m_L_takes) (List.map az_e [az_r 0, az_i a, az_r 43])) (List.map az_e [az_r 0, az_i 0, az_r 43]) rfl rfl ?_
  refine aw_s 4 (am_ini (am_mL am_m_L_takes) (List.map az_e [az_r 0, az_i a, az_r 43])) (List.map az_e [az_i a, az_r 0, az_i 0, az_r 43]) rfl rfl ?_
  refine aw_c 7 (st := [az_i a, az_r 0, az_i 0, az_r 43]) rfl rfl rfl HC (fun v t q => ?_) (fun E t q => ?_)
  · obtain ⟨v0, rfl, q2⟩ := awP_v (k := 0) q
    refine aw_s 8 (am_ini (am_mL am_m_L_takes) (List.map az_e [az_r 0, az_i a, az_r 43])) [.long (Int32.ofInt v0).toInt64, .int (Int32.ofInt 0), .ref 43] rfl rfl ?_
    refine aw_h 9 [] t (am_up gl 43 0 (Int32.ofInt v0).toInt64) gd rfl rfl aw_ls rfl ?_
    refine aw_s 15 (am_ini (am_mL am_m_L_takes) (List.map az_e [az_r 0, az_i a, az_r 43])) [] rfl rfl ?_
    refine aw_s 16 (am_ini (am_mL am_m_L_takes) (List.map az_e [az_r 0, az_i a, az_r 43])) [.int (Int32.ofInt 0)] rfl rfl ?_
    exact aw_end rfl rfl rfl rfl aw_ri ⟨rfl, 0, by decide, rfl, az_wk q2 (fun o2 t2 w => ⟨w.1, w.2.1, v0, w.2.2, fun _ => rfl⟩)⟩
  · obtain ⟨j, hj, hE, q2⟩ := awP_E (by decide) q
    have hc : j = 0 ∨ j = 1 ∨ j = 2 := by omega
    rcases hc with rfl | rfl | rfl
    · obtain rfl : 3 = E := Option.some.inj hE
      refine ⟨12, 13, _, 0, rfl, rfl, rfl, ?_⟩
      refine aw_s 14 _ [.int (Int32.ofInt 1)] rfl rfl ?_
      exact aw_end rfl rfl rfl rfl aw_ri ⟨rfl, 1, by decide, rfl, az_wk q2 (fun o2 t2 w => ⟨w.1, w.2.1, w.2.2.elim fun v w => ⟨v, w.1, fun w2 => absurd w2 (by decide)⟩⟩)⟩
    · exact absurd (show (none : Option Nat) = some E from hE) (fun w => by cases w)
    · exact absurd (show (none : Option Nat) = some E from hE) (fun w => by cases w)
theorem wl_cheapest {L : Nat} {xs : Nat → Int32} {s : az_S} {h : Nat} {gl : Nat → Nat → Int64} {gd : Nat → Nat → UInt64} {a b : Int} (HC : zCs am_m_X9_cheapest am_m_X10_cheapest [az_i a, az_i b] [3, 5] s h) : aw_R L xs 13 am_m_L_cheapest 0 (am_ini (am_mL am_m_L_cheapest) (List.map az_e [az_r 0, az_i a, az_i b, az_r 43])) [] s gl gd 1 (awP am_m_X10_cheapest [az_i a, az_i b] h gd) := by
  refine aw_s 1 (am_ini (am_mL am_m_L_cheapest) (List.map az_e [az_r 0, az_i a, az_i b, az_r 43])) (List.map az_e [az_r 43]) rfl rfl ?_
  refine aw_s 2 (am_ini (am_mL am_m_L_cheapest) (List.map az_e [az_r 0, az_i a, az_i b, az_r 43])) (List.map az_e [az_i 0, az_r 43]) rfl rfl ?_
  refine aw_s 3 (am_ini (am_mL am_m_L_cheapest) (List.map az_e [az_r 0, az_i a, az_i b, az_r 43])) (List.map az_e [az_r 0, az_i 0, az_r 43]) rfl rfl ?_
  refine aw_s 4 (am_ini (am_mL am_m_L_cheapest) (List.map az_e [az_r 0, az_i a, az_i b, az_r 43])) (List.map az_e [az_i a, az_r 0, az_i 0, az_r 43]) rfl rfl ?_
  refine aw_s 5 (am_ini (am_mL am_m_L_cheapest) (List.map az_e [az_r 0, az_i a, az_i b, az_r 43])) (List.map az_e [az_i b, az_i a, az_r 0, az_i 0, az_r 43]) rfl rfl ?_
  refine aw_c 8 (st := [az_i b, az_i a, az_r 0, az_i 0, az_r 43]) rfl rfl rfl HC (fun v t q => ?_) (fun E t q => ?_)
  · obtain ⟨v0, rfl, q2⟩ := awP_v (k := 0) q
    refine aw_s 9 (am_ini (am_mL am_m_L_cheapest) (List.map az_e [az_r 0, az_i a, az_i b, az_r 43])) [.long (Int32.ofInt v0).toInt64, .int (Int32.ofInt 0), .ref 43] rfl rfl ?_
    refine aw_h 10 [] t (am_up gl 43 0 (Int32.ofInt v0).toInt64) gd rfl rfl aw_ls rfl ?_
    refine aw_s 21 (am_ini (am_mL am_m_L_cheapest) (List.map az_e [az_r 0, az_i a, az_i b, az_r 43])) [] rfl rfl ?_
    refine aw_s 22 (am_ini (am_mL am_m_L_cheapest) (List.map az_e [az_r 0, az_i a, az_i b, az_r 43])) [.int (Int32.ofInt 0)] rfl rfl ?_
    exact aw_end rfl rfl rfl rfl aw_ri ⟨rfl, 0, by decide, rfl, az_wk q2 (fun o2 t2 w => ⟨w.1, w.2.1, v0, w.2.2, fun _ => rfl⟩)⟩
  · obtain ⟨j, hj, hE, q2⟩ := awP_E (by decide) q
    have hc : j = 0 ∨ j = 1 ∨ j = 2 := by omega
    rcases hc with rfl | rfl | rfl
    · obtain rfl : 3 = E := Option.some.inj hE
      refine ⟨13, 15, _, 0, rfl, rfl, rfl, ?_⟩
      refine aw_s 16 _ [.int (Int32.ofInt 1)] rfl rfl ?_
      exact aw_end rfl rfl rfl rfl aw_ri ⟨rfl, 1, by decide, rfl, az_wk q2 (fun o2 t2 w => ⟨w.1, w.2.1, w.2.2.elim fun v w => ⟨v, w.1, fun w2 => absurd w2 (by decide)⟩⟩)⟩
    · obtain rfl : 5 = E := Option.some.inj hE
      refine ⟨17, 19, _, 0, rfl, rfl, rfl, ?_⟩
      refine aw_s 20 _ [.int (Int32.ofInt 2)] rfl rfl ?_
      exact aw_end rfl rfl rfl rfl aw_ri ⟨rfl, 2, by decide, rfl, az_wk q2 (fun o2 t2 w => ⟨w.1, w.2.1, w.2.2.elim fun v w => ⟨v, w.1, fun w2 => absurd w2 (by decide)⟩⟩)⟩
    · exact absurd (show (none : Option Nat) = some E from hE) (fun w => by cases w)
theorem wl_cheapestAgain {L : Nat} {xs : Nat → Int32} {s : az_S} {h : Nat} {gl : Nat → Nat → Int64} {gd : Nat → Nat → UInt64} {a b : Int} (HC : zCs am_m_X9_cheapestAgain am_m_X10_cheapestAgain [az_i a, az_i b] [3, 5] s h) : aw_R L xs 13 am_m_L_cheapestAgain 0 (am_ini (am_mL am_m_L_cheapestAgain) (List.map az_e [az_r 0, az_i a, az_i b, az_r 43])) [] s gl gd 1 (awP am_m_X10_cheapestAgain [az_i a, az_i b] h gd) := by
  refine aw_s 1 (am_ini (am_mL am_m_L_cheapestAgain) (List.map az_e [az_r 0, az_i a, az_i b, az_r 43])) (List.map az_e [az_r 43]) rfl rfl ?_
  refine aw_s 2 (am_ini (am_mL am_m_L_cheapestAgain) (List.map az_e [az_r 0, az_i a, az_i b, az_r 43])) (List.map az_e [az_i 0, az_r 43]) rfl rfl ?_
  refine aw_s 3 (am_ini (am_mL am_m_L_cheapestAgain) (List.map az_e [az_r 0, az_i a, az_i b, az_r 43])) (List.map az_e [az_r 0, az_i 0, az_r 43]) rfl rfl ?_
  refine aw_s 4 (am_ini (am_mL am_m_L_cheapestAgain) (List.map az_e [az_r 0, az_i a, az_i b, az_r 43])) (List.map az_e [az_i a, az_r 0, az_i 0, az_r 43]) rfl rfl ?_
  refine aw_s 5 (am_ini (am_mL am_m_L_cheapestAgain) (List.map az_e [az_r 0, az_i a, az_i b, az_r 43])) (List.map az_e [az_i b, az_i a, az_r 0, az_i 0, az_r 43]) rfl rfl ?_
  refine aw_c 8 (st := [az_i b, az_i a, az_r 0, az_i 0, az_r 43]) rfl rfl rfl HC (fun v t q => ?_) (fun E t q => ?_)
  · obtain ⟨v0, rfl, q2⟩ := awP_v (k := 0) q
    refine aw_s 9 (am_ini (am_mL am_m_L_cheapestAgain) (List.map az_e [az_r 0, az_i a, az_i b, az_r 43])) [.long (Int32.ofInt v0).toInt64, .int (Int32.ofInt 0), .ref 43] rfl rfl ?_
    refine aw_h 10 [] t (am_up gl 43 0 (Int32.ofInt v0).toInt64) gd rfl rfl aw_ls rfl ?_
    refine aw_s 21 (am_ini (am_mL am_m_L_cheapestAgain) (List.map az_e [az_r 0, az_i a, az_i b, az_r 43])) [] rfl rfl ?_
    refine aw_s 22 (am_ini (am_mL am_m_L_cheapestAgain) (List.map az_e [az_r 0, az_i a, az_i b, az_r 43])) [.int (Int32.ofInt 0)] rfl rfl ?_
    exact aw_end rfl rfl rfl rfl aw_ri ⟨rfl, 0, by decide, rfl, az_wk q2 (fun o2 t2 w => ⟨w.1, w.2.1, v0, w.2.2, fun _ => rfl⟩)⟩
  · obtain ⟨j, hj, hE, q2⟩ := awP_E (by decide) q
    have hc : j = 0 ∨ j = 1 ∨ j = 2 := by omega
    rcases hc with rfl | rfl | rfl
    · obtain rfl : 3 = E := Option.some.inj hE
      refine ⟨13, 15, _, 0, rfl, rfl, rfl, ?_⟩
      refine aw_s 16 _ [.int (Int32.ofInt 1)] rfl rfl ?_
      exact aw_end rfl rfl rfl rfl aw_ri ⟨rfl, 1, by decide, rfl, az_wk q2 (fun o2 t2 w => ⟨w.1, w.2.1, w.2.2.elim fun v w => ⟨v, w.1, fun w2 => absurd w2 (by decide)⟩⟩)⟩
    · obtain rfl : 5 = E := Option.some.inj hE
      refine ⟨17, 19, _, 0, rfl, rfl, rfl, ?_⟩
      refine aw_s 20 _ [.int (Int32.ofInt 2)] rfl rfl ?_
      exact aw_end rfl rfl rfl rfl aw_ri ⟨rfl, 2, by decide, rfl, az_wk q2 (fun o2 t2 w => ⟨w.1, w.2.1, w.2.2.elim fun v w => ⟨v, w.1, fun w2 => absurd w2 (by decide)⟩⟩)⟩
    · exact absurd (show (none : Option Nat) = some E from hE) (fun w => by cases w)
theorem wl_fastest {L : Nat} {xs : Nat → Int32} {s : az_S} {h : Nat} {gl : Nat → Nat → Int64} {gd : Nat → Nat → UInt64} {a b : Int} (HC : zCs am_m_X9_fastest am_m_X10_fastest [az_i a, az_i b] [3, 5] s h) : aw_R L xs 13 am_m_L_fastest 0 (am_ini (am_mL am_m_L_fastest) (List.map az_e [az_r 0, az_i a, az_i b, az_r 43])) [] s gl gd 1 (awP am_m_X10_fastest [az_i a, az_i b] h gd) := by
  refine aw_s 1 (am_ini (am_mL am_m_L_fastest) (List.map az_e [az_r 0, az_i a, az_i b, az_r 43])) (List.map az_e [az_r 43]) rfl rfl ?_
  refine aw_s 2 (am_ini (am_mL am_m_L_fastest) (List.map az_e [az_r 0, az_i a, az_i b, az_r 43])) (List.map az_e [az_i 0, az_r 43]) rfl rfl ?_
  refine aw_s 3 (am_ini (am_mL am_m_L_fastest) (List.map az_e [az_r 0, az_i a, az_i b, az_r 43])) (List.map az_e [az_r 0, az_i 0, az_r 43]) rfl rfl ?_
  refine aw_s 4 (am_ini (am_mL am_m_L_fastest) (List.map az_e [az_r 0, az_i a, az_i b, az_r 43])) (List.map az_e [az_i a, az_r 0, az_i 0, az_r 43]) rfl rfl ?_
  refine aw_s 5 (am_ini (am_mL am_m_L_fastest) (List.map az_e [az_r 0, az_i a, az_i b, az_r 43])) (List.map az_e [az_i b, az_i a, az_r 0, az_i 0, az_r 43]) rfl rfl ?_
  refine aw_c 8 (st := [az_i b, az_i a, az_r 0, az_i 0, az_r 43]) rfl rfl rfl HC (fun v t q => ?_) (fun E t q => ?_)
  · obtain ⟨v0, rfl, q2⟩ := awP_v (k := 0) q
    refine aw_s 9 (am_ini (am_mL am_m_L_fastest) (List.map az_e [az_r 0, az_i a, az_i b, az_r 43])) [.long (Int32.ofInt v0).toInt64, .int (Int32.ofInt 0), .ref 43] rfl rfl ?_
    refine aw_h 10 [] t (am_up gl 43 0 (Int32.ofInt v0).toInt64) gd rfl rfl aw_ls rfl ?_
    refine aw_s 21 (am_ini (am_mL am_m_L_fastest) (List.map az_e [az_r 0, az_i a, az_i b, az_r 43])) [] rfl rfl ?_
    refine aw_s 22 (am_ini (am_mL am_m_L_fastest) (List.map az_e [az_r 0, az_i a, az_i b, az_r 43])) [.int (Int32.ofInt 0)] rfl rfl ?_
    exact aw_end rfl rfl rfl rfl aw_ri ⟨rfl, 0, by decide, rfl, az_wk q2 (fun o2 t2 w => ⟨w.1, w.2.1, v0, w.2.2, fun _ => rfl⟩)⟩
  · obtain ⟨j, hj, hE, q2⟩ := awP_E (by decide) q
    have hc : j = 0 ∨ j = 1 ∨ j = 2 := by omega
    rcases hc with rfl | rfl | rfl
    · obtain rfl : 3 = E := Option.some.inj hE
      refine ⟨13, 15, _, 0, rfl, rfl, rfl, ?_⟩
      refine aw_s 16 _ [.int (Int32.ofInt 1)] rfl rfl ?_
      exact aw_end rfl rfl rfl rfl aw_ri ⟨rfl, 1, by decide, rfl, az_wk q2 (fun o2 t2 w => ⟨w.1, w.2.1, w.2.2.elim fun v w => ⟨v, w.1, fun w2 => absurd w2 (by decide)⟩⟩)⟩
    · obtain rfl : 5 = E := Option.some.inj hE
      refine ⟨17, 19, _, 0, rfl, rfl, rfl, ?_⟩
      refine aw_s 20 _ [.int (Int32.ofInt 2)] rfl rfl ?_
      exact aw_end rfl rfl rfl rfl aw_ri ⟨rfl, 2, by decide, rfl, az_wk q2 (fun o2 t2 w => ⟨w.1, w.2.1, w.2.2.elim fun v w => ⟨v, w.1, fun w2 => absurd w2 (by decide)⟩⟩)⟩
    · exact absurd (show (none : Option Nat) = some E from hE) (fun w => by cases w)
theorem wl_fastestAgain {L : Nat} {xs : Nat → Int32} {s : az_S} {h : Nat} {gl : Nat → Nat → Int64} {gd : Nat → Nat → UInt64} {a b : Int} (HC : zCs am_m_X9_fastestAgain am_m_X10_fastestAgain [az_i a, az_i b] [3, 5] s h) : aw_R L xs 13 am_m_L_fastestAgain 0 (am_ini (am_mL am_m_L_fastestAgain) (List.map az_e [az_r 0, az_i a, az_i b, az_r 43])) [] s gl gd 1 (awP am_m_X10_fastestAgain [az_i a, az_i b] h gd) := by
  refine aw_s 1 (am_ini (am_mL am_m_L_fastestAgain) (List.map az_e [az_r 0, az_i a, az_i b, az_r 43])) (List.map az_e [az_r 43]) rfl rfl ?_
  refine aw_s 2 (am_ini (am_mL am_m_L_fastestAgain) (List.map az_e [az_r 0, az_i a, az_i b, az_r 43])) (List.map az_e [az_i 0, az_r 43]) rfl rfl ?_
  refine aw_s 3 (am_ini (am_mL am_m_L_fastestAgain) (List.map az_e [az_r 0, az_i a, az_i b, az_r 43])) (List.map az_e [az_r 0, az_i 0, az_r 43]) rfl rfl ?_
  refine aw_s 4 (am_ini (am_mL am_m_L_fastestAgain) (List.map az_e [az_r 0, az_i a, az_i b, az_r 43])) (List.map az_e [az_i a, az_r 0, az_i 0, az_r 43]) rfl rfl ?_
  refine aw_s 5 (am_ini (am_mL am_m_L_fastestAgain) (List.map az_e [az_r 0, az_i a, az_i b, az_r 43])) (List.map az_e [az_i b, az_i a, az_r 0, az_i 0, az_r 43]) rfl rfl ?_
  refine aw_c 8 (st := [az_i b, az_i a, az_r 0, az_i 0, az_r 43]) rfl rfl rfl HC (fun v t q => ?_) (fun E t q => ?_)
  · obtain ⟨v0, rfl, q2⟩ := awP_v (k := 0) q
    refine aw_s 9 (am_ini (am_mL am_m_L_fastestAgain) (List.map az_e [az_r 0, az_i a, az_i b, az_r 43])) [.long (Int32.ofInt v0).toInt64, .int (Int32.ofInt 0), .ref 43] rfl rfl ?_
    refine aw_h 10 [] t (am_up gl 43 0 (Int32.ofInt v0).toInt64) gd rfl rfl aw_ls rfl ?_
    refine aw_s 21 (am_ini (am_mL am_m_L_fastestAgain) (List.map az_e [az_r 0, az_i a, az_i b, az_r 43])) [] rfl rfl ?_
    refine aw_s 22 (am_ini (am_mL am_m_L_fastestAgain) (List.map az_e [az_r 0, az_i a, az_i b, az_r 43])) [.int (Int32.ofInt 0)] rfl rfl ?_
    exact aw_end rfl rfl rfl rfl aw_ri ⟨rfl, 0, by decide, rfl, az_wk q2 (fun o2 t2 w => ⟨w.1, w.2.1, v0, w.2.2, fun _ => rfl⟩)⟩
  · obtain ⟨j, hj, hE, q2⟩ := awP_E (by decide) q
    have hc : j = 0 ∨ j = 1 ∨ j = 2 := by omega
    rcases hc with rfl | rfl | rfl
    · obtain rfl : 3 = E := Option.some.inj hE
      refine ⟨13, 15, _, 0, rfl, rfl, rfl, ?_⟩
      refine aw_s 16 _ [.int (Int32.ofInt 1)] rfl rfl ?_
      exact aw_end rfl rfl rfl rfl aw_ri ⟨rfl, 1, by decide, rfl, az_wk q2 (fun o2 t2 w => ⟨w.1, w.2.1, w.2.2.elim fun v w => ⟨v, w.1, fun w2 => absurd w2 (by decide)⟩⟩)⟩
    · obtain rfl : 5 = E := Option.some.inj hE
      refine ⟨17, 19, _, 0, rfl, rfl, rfl, ?_⟩
      refine aw_s 20 _ [.int (Int32.ofInt 2)] rfl rfl ?_
      exact aw_end rfl rfl rfl rfl aw_ri ⟨rfl, 2, by decide, rfl, az_wk q2 (fun o2 t2 w => ⟨w.1, w.2.1, w.2.2.elim fun v w => ⟨v, w.1, fun w2 => absurd w2 (by decide)⟩⟩)⟩
    · exact absurd (show (none : Option Nat) = some E from hE) (fun w => by cases w)
theorem wl_hangs {L : Nat} {xs : Nat → Int32} {s : az_S} {h : Nat} {gl : Nat → Nat → Int64} {gd : Nat → Nat → UInt64} {a b : Int} (HC : zCs am_m_X9_hangs am_m_X10_hangs [az_i a, az_i b] [3, 5] s h) : aw_R L xs 13 am_m_L_hangs 0 (am_ini (am_mL am_m_L_hangs) (List.map az_e [az_r 0, az_i a, az_i b, az_r 43])) [] s gl gd 1 (awP am_m_X10_hangs [az_i a, az_i b] h gd) := by
  refine aw_s 1 (am_ini (am_mL am_m_L_hangs) (List.map az_e [az_r 0, az_i a, az_i b, az_r 43])) (List.map az_e [az_r 43]) rfl rfl ?_
  refine aw_s 2 (am_ini (am_mL am_m_L_hangs) (List.map az_e [az_r 0, az_i a, az_i b, az_r 43])) (List.map az_e [az_i 0, az_r 43]) rfl rfl ?_
  refine aw_s 3 (am_ini (am_mL am_m_L_hangs) (List.map az_e [az_r 0, az_i a, az_i b, az_r 43])) (List.map az_e [az_r 0, az_i 0, az_r 43]) rfl rfl ?_
  refine aw_s 4 (am_ini (am_mL am_m_L_hangs) (List.map az_e [az_r 0, az_i a, az_i b, az_r 43])) (List.map az_e [az_i a, az_r 0, az_i 0, az_r 43]) rfl rfl ?_
  refine aw_s 5 (am_ini (am_mL am_m_L_hangs) (List.map az_e [az_r 0, az_i a, az_i b, az_r 43])) (List.map az_e [az_i b, az_i a, az_r 0, az_i 0, az_r 43]) rfl rfl ?_
  refine aw_c 8 (st := [az_i b, az_i a, az_r 0, az_i 0, az_r 43]) rfl rfl rfl HC (fun v t q => ?_) (fun E t q => ?_)
  · obtain ⟨v0, rfl, q2⟩ := awP_v (k := 0) q
    refine aw_s 9 (am_ini (am_mL am_m_L_hangs) (List.map az_e [az_r 0, az_i a, az_i b, az_r 43])) [.long (Int32.ofInt v0).toInt64, .int (Int32.ofInt 0), .ref 43] rfl rfl ?_
    refine aw_h 10 [] t (am_up gl 43 0 (Int32.ofInt v0).toInt64) gd rfl rfl aw_ls rfl ?_
    refine aw_s 21 (am_ini (am_mL am_m_L_hangs) (List.map az_e [az_r 0, az_i a, az_i b, az_r 43])) [] rfl rfl ?_
    refine aw_s 22 (am_ini (am_mL am_m_L_hangs) (List.map az_e [az_r 0, az_i a, az_i b, az_r 43])) [.int (Int32.ofInt 0)] rfl rfl ?_
    exact aw_end rfl rfl rfl rfl aw_ri ⟨rfl, 0, by decide, rfl, az_wk q2 (fun o2 t2 w => ⟨w.1, w.2.1, v0, w.2.2, fun _ => rfl⟩)⟩
  · obtain ⟨j, hj, hE, q2⟩ := awP_E (by decide) q
    have hc : j = 0 ∨ j = 1 ∨ j = 2 := by omega
    rcases hc with rfl | rfl | rfl
    · obtain rfl : 3 = E := Option.some.inj hE
      refine ⟨13, 15, _, 0, rfl, rfl, rfl, ?_⟩
      refine aw_s 16 _ [.int (Int32.ofInt 1)] rfl rfl ?_
      exact aw_end rfl rfl rfl rfl aw_ri ⟨rfl, 1, by decide, rfl, az_wk q2 (fun o2 t2 w => ⟨w.1, w.2.1, w.2.2.elim fun v w => ⟨v, w.1, fun w2 => absurd w2 (by decide)⟩⟩)⟩
    · obtain rfl : 5 = E := Option.some.inj hE
      refine ⟨17, 19, _, 0, rfl, rfl, rfl, ?_⟩
      refine aw_s 20 _ [.int (Int32.ofInt 2)] rfl rfl ?_
      exact aw_end rfl rfl rfl rfl aw_ri ⟨rfl, 2, by decide, rfl, az_wk q2 (fun o2 t2 w => ⟨w.1, w.2.1, w.2.2.elim fun v w => ⟨v, w.1, fun w2 => absurd w2 (by decide)⟩⟩)⟩
    · exact absurd (show (none : Option Nat) = some E from hE) (fun w => by cases w)
theorem wl_richest {L : Nat} {xs : Nat → Int32} {s : az_S} {h : Nat} {gl : Nat → Nat → Int64} {gd : Nat → Nat → UInt64} {a : Int} (HC : zCs am_m_X9_richest am_m_X10_richest [az_i a] [5] s h) : aw_R L xs 13 am_m_L_richest 0 (am_ini (am_mL am_m_L_richest) (List.map az_e [az_r 0, az_i a, az_r 43])) [] s gl gd 1 (awP am_m_X10_richest [az_i a] h gd) := by
  refine aw_s 1 (am_ini (am_mL am_m_L_richest) (List.map az_e [az_r 0, az_i a, az_r 43])) (List.map az_e [az_r 43]) rfl rfl ?_
  refine aw_s 2 (am_ini (am_mL am_m_L_richest) (List.map az_e [az_r 0, az_i a, az_r 43])) (List.map az_e [az_i 0, az_r 43]) rfl rfl ?_
  refine aw_s 3 (am_ini (am_mL am_m_L_richest) (List.map az_e [az_r 0, az_i a, az_r 43])) (List.map az_e [az_r 0, az_i 0, az_r 43]) rfl rfl ?_
  refine aw_s 4 (am_ini (am_mL am_m_L_richest) (List.map az_e [az_r 0, az_i a, az_r 43])) (List.map az_e [az_i a, az_r 0, az_i 0, az_r 43]) rfl rfl ?_
  refine aw_c 7 (st := [az_i a, az_r 0, az_i 0, az_r 43]) rfl rfl rfl HC (fun v t q => ?_) (fun E t q => ?_)
  · obtain ⟨v0, rfl, q2⟩ := awP_v (k := 0) q
    refine aw_s 8 (am_ini (am_mL am_m_L_richest) (List.map az_e [az_r 0, az_i a, az_r 43])) [.long (Int32.ofInt v0).toInt64, .int (Int32.ofInt 0), .ref 43] rfl rfl ?_
    refine aw_h 9 [] t (am_up gl 43 0 (Int32.ofInt v0).toInt64) gd rfl rfl aw_ls rfl ?_
    refine aw_s 15 (am_ini (am_mL am_m_L_richest) (List.map az_e [az_r 0, az_i a, az_r 43])) [] rfl rfl ?_
    refine aw_s 16 (am_ini (am_mL am_m_L_richest) (List.map az_e [az_r 0, az_i a, az_r 43])) [.int (Int32.ofInt 0)] rfl rfl ?_
    exact aw_end rfl rfl rfl rfl aw_ri ⟨rfl, 0, by decide, rfl, az_wk q2 (fun o2 t2 w => ⟨w.1, w.2.1, v0, w.2.2, fun _ => rfl⟩)⟩
  · obtain ⟨j, hj, hE, q2⟩ := awP_E (by decide) q
    have hc : j = 0 ∨ j = 1 ∨ j = 2 := by omega
    rcases hc with rfl | rfl | rfl
    · obtain rfl : 5 = E := Option.some.inj hE
      refine ⟨12, 13, _, 0, rfl, rfl, rfl, ?_⟩
      refine aw_s 14 _ [.int (Int32.ofInt 1)] rfl rfl ?_
      exact aw_end rfl rfl rfl rfl aw_ri ⟨rfl, 1, by decide, rfl, az_wk q2 (fun o2 t2 w => ⟨w.1, w.2.1, w.2.2.elim fun v w => ⟨v, w.1, fun w2 => absurd w2 (by decide)⟩⟩)⟩
    · exact absurd (show (none : Option Nat) = some E from hE) (fun w => by cases w)
    · exact absurd (show (none : Option Nat) = some E from hE) (fun w => by cases w)
theorem wl_tired {L : Nat} {xs : Nat → Int32} {s : az_S} {h : Nat} {gl : Nat → Nat → Int64} {gd : Nat → Nat → UInt64} {a : Int} (HC : zCs am_m_X9_tired am_m_X10_tired [az_i a] [5] s h) : aw_R L xs 13 am_m_L_tired 0 (am_ini (am_mL am_m_L_tired) (List.map az_e [az_r 0, az_i a, az_r 43])) [] s gl gd 1 (awP am_m_X10_tired [az_i a] h gd) := by
  refine aw_s 1 (am_ini (am_mL am_m_L_tired) (List.map az_e [az_r 0, az_i a, az_r 43])) (List.map az_e [az_r 43]) rfl rfl ?_
  refine aw_s 2 (am_ini (am_mL am_m_L_tired) (List.map az_e [az_r 0, az_i a, az_r 43])) (List.map az_e [az_i 0, az_r 43]) rfl rfl ?_
  refine aw_s 3 (am_ini (am_mL am_m_L_tired) (List.map az_e [az_r 0, az_i a, az_r 43])) (List.map az_e [az_r 0, az_i 0, az_r 43]) rfl rfl ?_
  refine aw_s 4 (am_ini (am_mL am_m_L_tired) (List.map az_e [az_r 0, az_i a, az_r 43])) (List.map az_e [az_i a, az_r 0, az_i 0, az_r 43]) rfl rfl ?_
  refine aw_c 7 (st := [az_i a, az_r 0, az_i 0, az_r 43]) rfl rfl rfl HC (fun v t q => ?_) (fun E t q => ?_)
  · obtain ⟨v0, rfl, q2⟩ := awP_v (k := 0) q
    refine aw_s 8 (am_ini (am_mL am_m_L_tired) (List.map az_e [az_r 0, az_i a, az_r 43])) [.long (Int32.ofInt v0).toInt64, .int (Int32.ofInt 0), .ref 43] rfl rfl ?_
    refine aw_h 9 [] t (am_up gl 43 0 (Int32.ofInt v0).toInt64) gd rfl rfl aw_ls rfl ?_
    refine aw_s 15 (am_ini (am_mL am_m_L_tired) (List.map az_e [az_r 0, az_i a, az_r 43])) [] rfl rfl ?_
    refine aw_s 16 (am_ini (am_mL am_m_L_tired) (List.map az_e [az_r 0, az_i a, az_r 43])) [.int (Int32.ofInt 0)] rfl rfl ?_
    exact aw_end rfl rfl rfl rfl aw_ri ⟨rfl, 0, by decide, rfl, az_wk q2 (fun o2 t2 w => ⟨w.1, w.2.1, v0, w.2.2, fun _ => rfl⟩)⟩
  · obtain ⟨j, hj, hE, q2⟩ := awP_E (by decide) q
    have hc : j = 0 ∨ j = 1 ∨ j = 2 := by omega
    rcases hc with rfl | rfl | rfl
    · obtain rfl : 5 = E := Option.some.inj hE
      refine ⟨12, 13, _, 0, rfl, rfl, rfl, ?_⟩
      refine aw_s 14 _ [.int (Int32.ofInt 1)] rfl rfl ?_
      exact aw_end rfl rfl rfl rfl aw_ri ⟨rfl, 1, by decide, rfl, az_wk q2 (fun o2 t2 w => ⟨w.1, w.2.1, w.2.2.elim fun v w => ⟨v, w.1, fun w2 => absurd w2 (by decide)⟩⟩)⟩
    · exact absurd (show (none : Option Nat) = some E from hE) (fun w => by cases w)
    · exact absurd (show (none : Option Nat) = some E from hE) (fun w => by cases w)
theorem wl_next {L : Nat} {xs : Nat → Int32} {s : az_S} {h : Nat} {gl : Nat → Nat → Int64} {gd : Nat → Nat → UInt64} (HC : zCs am_m_X9_next am_m_X10_next [] [5] s h) : aw_R L xs 13 am_m_L_next 0 (am_ini (am_mL am_m_L_next) (List.map az_e [az_r 0, az_r 43])) [] s gl gd 1 (awP am_m_X10_next [] h gd) := by
  refine aw_s 1 (am_ini (am_mL am_m_L_next) (List.map az_e [az_r 0, az_r 43])) (List.map az_e [az_r 43]) rfl rfl ?_
  refine aw_s 2 (am_ini (am_mL am_m_L_next) (List.map az_e [az_r 0, az_r 43])) (List.map az_e [az_i 0, az_r 43]) rfl rfl ?_
  refine aw_s 3 (am_ini (am_mL am_m_L_next) (List.map az_e [az_r 0, az_r 43])) (List.map az_e [az_r 0, az_i 0, az_r 43]) rfl rfl ?_
  refine aw_c 6 (st := [az_r 0, az_i 0, az_r 43]) rfl rfl rfl HC (fun v t q => ?_) (fun E t q => ?_)
  · obtain ⟨v0, rfl, q2⟩ := awP_v (k := 0) q
    refine aw_s 7 (am_ini (am_mL am_m_L_next) (List.map az_e [az_r 0, az_r 43])) [.long (Int32.ofInt v0).toInt64, .int (Int32.ofInt 0), .ref 43] rfl rfl ?_
    refine aw_h 8 [] t (am_up gl 43 0 (Int32.ofInt v0).toInt64) gd rfl rfl aw_ls rfl ?_
    refine aw_s 14 (am_ini (am_mL am_m_L_next) (List.map az_e [az_r 0, az_r 43])) [] rfl rfl ?_
    refine aw_s 15 (am_ini (am_mL am_m_L_next) (List.map az_e [az_r 0, az_r 43])) [.int (Int32.ofInt 0)] rfl rfl ?_
    exact aw_end rfl rfl rfl rfl aw_ri ⟨rfl, 0, by decide, rfl, az_wk q2 (fun o2 t2 w => ⟨w.1, w.2.1, v0, w.2.2, fun _ => rfl⟩)⟩
  · obtain ⟨j, hj, hE, q2⟩ := awP_E (by decide) q
    have hc : j = 0 ∨ j = 1 ∨ j = 2 := by omega
    rcases hc with rfl | rfl | rfl
    · obtain rfl : 5 = E := Option.some.inj hE
      refine ⟨11, 12, _, 0, rfl, rfl, rfl, ?_⟩
      refine aw_s 13 _ [.int (Int32.ofInt 1)] rfl rfl ?_
      exact aw_end rfl rfl rfl rfl aw_ri ⟨rfl, 1, by decide, rfl, az_wk q2 (fun o2 t2 w => ⟨w.1, w.2.1, w.2.2.elim fun v w => ⟨v, w.1, fun w2 => absurd w2 (by decide)⟩⟩)⟩
    · exact absurd (show (none : Option Nat) = some E from hE) (fun w => by cases w)
    · exact absurd (show (none : Option Nat) = some E from hE) (fun w => by cases w)
theorem wl_type {L : Nat} {xs : Nat → Int32} {s : az_S} {h : Nat} {gl : Nat → Nat → Int64} {gd : Nat → Nat → UInt64} {a : Int} (HC : zCs am_m_X9_type am_m_X10_type [az_i a] [2] s h) : aw_R L xs 13 am_m_L_type 0 (am_ini (am_mL am_m_L_type) (List.map az_e [az_r 0, az_i a, az_r 43])) [] s gl gd 1 (awP am_m_X10_type [az_i a] h gd) := by
  refine aw_s 1 (am_ini (am_mL am_m_L_type) (List.map az_e [az_r 0, az_i a, az_r 43])) (List.map az_e [az_r 43]) rfl rfl ?_
  refine aw_s 2 (am_ini (am_mL am_m_L_type) (List.map az_e [az_r 0, az_i a, az_r 43])) (List.map az_e [az_i 0, az_r 43]) rfl rfl ?_
  refine aw_s 3 (am_ini (am_mL am_m_L_type) (List.map az_e [az_r 0, az_i a, az_r 43])) (List.map az_e [az_r 0, az_i 0, az_r 43]) rfl rfl ?_
  refine aw_s 4 (am_ini (am_mL am_m_L_type) (List.map az_e [az_r 0, az_i a, az_r 43])) (List.map az_e [az_i a, az_r 0, az_i 0, az_r 43]) rfl rfl ?_
  refine aw_c 7 (st := [az_i a, az_r 0, az_i 0, az_r 43]) rfl rfl rfl HC (fun v t q => ?_) (fun E t q => ?_)
  · obtain ⟨v0, rfl, q2⟩ := awP_v (k := 0) q
    refine aw_s 8 (am_ini (am_mL am_m_L_type) (List.map az_e [az_r 0, az_i a, az_r 43])) [.long (Int32.ofInt v0).toInt64, .int (Int32.ofInt 0), .ref 43] rfl rfl ?_
    refine aw_h 9 [] t (am_up gl 43 0 (Int32.ofInt v0).toInt64) gd rfl rfl aw_ls rfl ?_
    refine aw_s 15 (am_ini (am_mL am_m_L_type) (List.map az_e [az_r 0, az_i a, az_r 43])) [] rfl rfl ?_
    refine aw_s 16 (am_ini (am_mL am_m_L_type) (List.map az_e [az_r 0, az_i a, az_r 43])) [.int (Int32.ofInt 0)] rfl rfl ?_
    exact aw_end rfl rfl rfl rfl aw_ri ⟨rfl, 0, by decide, rfl, az_wk q2 (fun o2 t2 w => ⟨w.1, w.2.1, v0, w.2.2, fun _ => rfl⟩)⟩
  · obtain ⟨j, hj, hE, q2⟩ := awP_E (by decide) q
    have hc : j = 0 ∨ j = 1 ∨ j = 2 := by omega
    rcases hc with rfl | rfl | rfl
    · obtain rfl : 2 = E := Option.some.inj hE
      refine ⟨12, 13, _, 0, rfl, rfl, rfl, ?_⟩
      refine aw_s 14 _ [.int (Int32.ofInt 1)] rfl rfl ?_
      exact aw_end rfl rfl rfl rfl aw_ri ⟨rfl, 1, by decide, rfl, az_wk q2 (fun o2 t2 w => ⟨w.1, w.2.1, w.2.2.elim fun v w => ⟨v, w.1, fun w2 => absurd w2 (by decide)⟩⟩)⟩
    · exact absurd (show (none : Option Nat) = some E from hE) (fun w => by cases w)
    · exact absurd (show (none : Option Nat) = some E from hE) (fun w => by cases w)
theorem wl_read {L : Nat} {xs : Nat → Int32} {s : az_S} {h : Nat} {gl : Nat → Nat → Int64} {gd : Nat → Nat → UInt64} (HC : zCs am_m_X9_read am_m_X10_read [] [1, 4] s h) : aw_R L xs 13 am_m_L_read 0 (am_ini (am_mL am_m_L_read) (List.map az_e [az_r 0, az_r 43])) [] s gl gd 1 (awP am_m_X10_read [] h gd) := by
  refine aw_s 1 (am_ini (am_mL am_m_L_read) (List.map az_e [az_r 0, az_r 43])) (List.map az_e [az_r 43]) rfl rfl ?_
  refine aw_s 2 (am_ini (am_mL am_m_L_read) (List.map az_e [az_r 0, az_r 43])) (List.map az_e [az_i 0, az_r 43]) rfl rfl ?_
  refine aw_s 3 (am_ini (am_mL am_m_L_read) (List.map az_e [az_r 0, az_r 43])) (List.map az_e [az_r 0, az_i 0, az_r 43]) rfl rfl ?_
  refine aw_c 6 (st := [az_r 0, az_i 0, az_r 43]) rfl rfl rfl HC (fun v t q => ?_) (fun E t q => ?_)
  · obtain ⟨v0, rfl, q2⟩ := awP_v (k := 0) q
    refine aw_s 7 (am_ini (am_mL am_m_L_read) (List.map az_e [az_r 0, az_r 43])) [.long (Int32.ofInt v0).toInt64, .int (Int32.ofInt 0), .ref 43] rfl rfl ?_
    refine aw_h 8 [] t (am_up gl 43 0 (Int32.ofInt v0).toInt64) gd rfl rfl aw_ls rfl ?_
    refine aw_s 17 (am_ini (am_mL am_m_L_read) (List.map az_e [az_r 0, az_r 43])) [] rfl rfl ?_
    refine aw_s 18 (am_ini (am_mL am_m_L_read) (List.map az_e [az_r 0, az_r 43])) [.int (Int32.ofInt 0)] rfl rfl ?_
    exact aw_end rfl rfl rfl rfl aw_ri ⟨rfl, 0, by decide, rfl, az_wk q2 (fun o2 t2 w => ⟨w.1, w.2.1, v0, w.2.2, fun _ => rfl⟩)⟩
  · obtain ⟨j, hj, hE, q2⟩ := awP_E (by decide) q
    have hc : j = 0 ∨ j = 1 ∨ j = 2 := by omega
    rcases hc with rfl | rfl | rfl
    · obtain rfl : 1 = E := Option.some.inj hE
      refine ⟨11, 12, _, 0, rfl, rfl, rfl, ?_⟩
      refine aw_s 13 _ [.int (Int32.ofInt 1)] rfl rfl ?_
      exact aw_end rfl rfl rfl rfl aw_ri ⟨rfl, 1, by decide, rfl, az_wk q2 (fun o2 t2 w => ⟨w.1, w.2.1, w.2.2.elim fun v w => ⟨v, w.1, fun w2 => absurd w2 (by decide)⟩⟩)⟩
    · obtain rfl : 4 = E := Option.some.inj hE
      refine ⟨14, 15, _, 0, rfl, rfl, rfl, ?_⟩
      refine aw_s 16 _ [.int (Int32.ofInt 2)] rfl rfl ?_
      exact aw_end rfl rfl rfl rfl aw_ri ⟨rfl, 2, by decide, rfl, az_wk q2 (fun o2 t2 w => ⟨w.1, w.2.1, w.2.2.elim fun v w => ⟨v, w.1, fun w2 => absurd w2 (by decide)⟩⟩)⟩
    · exact absurd (show (none : Option Nat) = some E from hE) (fun w => by cases w)
theorem wl_errorPosition {L : Nat} {xs : Nat → Int32} {s : az_S} {h : Nat} {gl : Nat → Nat → Int64} {gd : Nat → Nat → UInt64} (HC : zCs am_m_X9_errorPosition am_m_X10_errorPosition [] [5] s h) : aw_R L xs 13 am_m_L_errorPosition 0 (am_ini (am_mL am_m_L_errorPosition) (List.map az_e [az_r 0, az_r 43])) [] s gl gd 1 (awP am_m_X10_errorPosition [] h gd) := by
  refine aw_s 1 (am_ini (am_mL am_m_L_errorPosition) (List.map az_e [az_r 0, az_r 43])) (List.map az_e [az_r 43]) rfl rfl ?_
  refine aw_s 2 (am_ini (am_mL am_m_L_errorPosition) (List.map az_e [az_r 0, az_r 43])) (List.map az_e [az_i 0, az_r 43]) rfl rfl ?_
  refine aw_s 3 (am_ini (am_mL am_m_L_errorPosition) (List.map az_e [az_r 0, az_r 43])) (List.map az_e [az_r 0, az_i 0, az_r 43]) rfl rfl ?_
  refine aw_c 6 (st := [az_r 0, az_i 0, az_r 43]) rfl rfl rfl HC (fun v t q => ?_) (fun E t q => ?_)
  · obtain ⟨v0, rfl, q2⟩ := awP_v (k := 0) q
    refine aw_s 7 (am_ini (am_mL am_m_L_errorPosition) (List.map az_e [az_r 0, az_r 43])) [.long (Int32.ofInt v0).toInt64, .int (Int32.ofInt 0), .ref 43] rfl rfl ?_
    refine aw_h 8 [] t (am_up gl 43 0 (Int32.ofInt v0).toInt64) gd rfl rfl aw_ls rfl ?_
    refine aw_s 14 (am_ini (am_mL am_m_L_errorPosition) (List.map az_e [az_r 0, az_r 43])) [] rfl rfl ?_
    refine aw_s 15 (am_ini (am_mL am_m_L_errorPosition) (List.map az_e [az_r 0, az_r 43])) [.int (Int32.ofInt 0)] rfl rfl ?_
    exact aw_end rfl rfl rfl rfl aw_ri ⟨rfl, 0, by decide, rfl, az_wk q2 (fun o2 t2 w => ⟨w.1, w.2.1, v0, w.2.2, fun _ => rfl⟩)⟩
  · obtain ⟨j, hj, hE, q2⟩ := awP_E (by decide) q
    have hc : j = 0 ∨ j = 1 ∨ j = 2 := by omega
    rcases hc with rfl | rfl | rfl
    · obtain rfl : 5 = E := Option.some.inj hE
      refine ⟨11, 12, _, 0, rfl, rfl, rfl, ?_⟩
      refine aw_s 13 _ [.int (Int32.ofInt 1)] rfl rfl ?_
      exact aw_end rfl rfl rfl rfl aw_ri ⟨rfl, 1, by decide, rfl, az_wk q2 (fun o2 t2 w => ⟨w.1, w.2.1, w.2.2.elim fun v w => ⟨v, w.1, fun w2 => absurd w2 (by decide)⟩⟩)⟩
    · exact absurd (show (none : Option Nat) = some E from hE) (fun w => by cases w)
    · exact absurd (show (none : Option Nat) = some E from hE) (fun w => by cases w)
theorem wl_refusal {L : Nat} {xs : Nat → Int32} {s : az_S} {h : Nat} {gl : Nat → Nat → Int64} {gd : Nat → Nat → UInt64} {a b : Int} (HC : zCs am_m_X9_refusal am_m_X10_refusal [az_i a, az_i b] [5] s h) : aw_R L xs 13 am_m_L_refusal 0 (am_ini (am_mL am_m_L_refusal) (List.map az_e [az_r 0, az_i a, az_i b, az_r 43])) [] s gl gd 1 (awP am_m_X10_refusal [az_i a, az_i b] h gd) := by
  refine aw_s 1 (am_ini (am_mL am_m_L_refusal) (List.map az_e [az_r 0, az_i a, az_i b, az_r 43])) (List.map az_e [az_r 43]) rfl rfl ?_
  refine aw_s 2 (am_ini (am_mL am_m_L_refusal) (List.map az_e [az_r 0, az_i a, az_i b, az_r 43])) (List.map az_e [az_i 0, az_r 43]) rfl rfl ?_
  refine aw_s 3 (am_ini (am_mL am_m_L_refusal) (List.map az_e [az_r 0, az_i a, az_i b, az_r 43])) (List.map az_e [az_r 0, az_i 0, az_r 43]) rfl rfl ?_
  refine aw_s 4 (am_ini (am_mL am_m_L_refusal) (List.map az_e [az_r 0, az_i a, az_i b, az_r 43])) (List.map az_e [az_i a, az_r 0, az_i 0, az_r 43]) rfl rfl ?_
  refine aw_s 5 (am_ini (am_mL am_m_L_refusal) (List.map az_e [az_r 0, az_i a, az_i b, az_r 43])) (List.map az_e [az_i b, az_i a, az_r 0, az_i 0, az_r 43]) rfl rfl ?_
  refine aw_c 8 (st := [az_i b, az_i a, az_r 0, az_i 0, az_r 43]) rfl rfl rfl HC (fun v t q => ?_) (fun E t q => ?_)
  · obtain ⟨v0, rfl, q2⟩ := awP_v (k := 0) q
    refine aw_s 9 (am_ini (am_mL am_m_L_refusal) (List.map az_e [az_r 0, az_i a, az_i b, az_r 43])) [.long (Int32.ofInt v0).toInt64, .int (Int32.ofInt 0), .ref 43] rfl rfl ?_
    refine aw_h 10 [] t (am_up gl 43 0 (Int32.ofInt v0).toInt64) gd rfl rfl aw_ls rfl ?_
    refine aw_s 17 (am_ini (am_mL am_m_L_refusal) (List.map az_e [az_r 0, az_i a, az_i b, az_r 43])) [] rfl rfl ?_
    refine aw_s 18 (am_ini (am_mL am_m_L_refusal) (List.map az_e [az_r 0, az_i a, az_i b, az_r 43])) [.int (Int32.ofInt 0)] rfl rfl ?_
    exact aw_end rfl rfl rfl rfl aw_ri ⟨rfl, 0, by decide, rfl, az_wk q2 (fun o2 t2 w => ⟨w.1, w.2.1, v0, w.2.2, fun _ => rfl⟩)⟩
  · obtain ⟨j, hj, hE, q2⟩ := awP_E (by decide) q
    have hc : j = 0 ∨ j = 1 ∨ j = 2 := by omega
    rcases hc with rfl | rfl | rfl
    · obtain rfl : 5 = E := Option.some.inj hE
      refine ⟨13, 15, _, 0, rfl, rfl, rfl, ?_⟩
      refine aw_s 16 _ [.int (Int32.ofInt 1)] rfl rfl ?_
      exact aw_end rfl rfl rfl rfl aw_ri ⟨rfl, 1, by decide, rfl, az_wk q2 (fun o2 t2 w => ⟨w.1, w.2.1, w.2.2.elim fun v w => ⟨v, w.1, fun w2 => absurd w2 (by decide)⟩⟩)⟩
    · exact absurd (show (none : Option Nat) = some E from hE) (fun w => by cases w)
    · exact absurd (show (none : Option Nat) = some E from hE) (fun w => by cases w)
theorem wl_show {L : Nat} {xs : Nat → Int32} {s : az_S} {h : Nat} {gl : Nat → Nat → Int64} {gd : Nat → Nat → UInt64} {a : Int} (HC : zCs am_m_X9_show am_m_X10_show [az_i a] [3] s h) : aw_R L xs 13 am_m_L_show 0 (am_ini (am_mL am_m_L_show) (List.map az_e [az_r 0, az_i a, az_r 43])) [] s gl gd 1 (awP am_m_X10_show [az_i a] h gd) := by
  refine aw_s 1 (am_ini (am_mL am_m_L_show) (List.map az_e [az_r 0, az_i a, az_r 43])) (List.map az_e [az_r 43]) rfl rfl ?_
  refine aw_s 2 (am_ini (am_mL am_m_L_show) (List.map az_e [az_r 0, az_i a, az_r 43])) (List.map az_e [az_i 0, az_r 43]) rfl rfl ?_
  refine aw_s 3 (am_ini (am_mL am_m_L_show) (List.map az_e [az_r 0, az_i a, az_r 43])) (List.map az_e [az_r 0, az_i 0, az_r 43]) rfl rfl ?_
  refine aw_s 4 (am_ini (am_mL am_m_L_show) (List.map az_e [az_r 0, az_i a, az_r 43])) (List.map az_e [az_i a, az_r 0, az_i 0, az_r 43]) rfl rfl ?_
  refine aw_c 7 (st := [az_i a, az_r 0, az_i 0, az_r 43]) rfl rfl rfl HC (fun v t q => ?_) (fun E t q => ?_)
  · obtain ⟨v0, rfl, q2⟩ := awP_v (k := 0) q
    refine aw_s 8 (am_ini (am_mL am_m_L_show) (List.map az_e [az_r 0, az_i a, az_r 43])) [.long (Int32.ofInt v0).toInt64, .int (Int32.ofInt 0), .ref 43] rfl rfl ?_
    refine aw_h 9 [] t (am_up gl 43 0 (Int32.ofInt v0).toInt64) gd rfl rfl aw_ls rfl ?_
    refine aw_s 15 (am_ini (am_mL am_m_L_show) (List.map az_e [az_r 0, az_i a, az_r 43])) [] rfl rfl ?_
    refine aw_s 16 (am_ini (am_mL am_m_L_show) (List.map az_e [az_r 0, az_i a, az_r 43])) [.int (Int32.ofInt 0)] rfl rfl ?_
    exact aw_end rfl rfl rfl rfl aw_ri ⟨rfl, 0, by decide, rfl, az_wk q2 (fun o2 t2 w => ⟨w.1, w.2.1, v0, w.2.2, fun _ => rfl⟩)⟩
  · obtain ⟨j, hj, hE, q2⟩ := awP_E (by decide) q
    have hc : j = 0 ∨ j = 1 ∨ j = 2 := by omega
    rcases hc with rfl | rfl | rfl
    · obtain rfl : 3 = E := Option.some.inj hE
      refine ⟨12, 13, _, 0, rfl, rfl, rfl, ?_⟩
      refine aw_s 14 _ [.int (Int32.ofInt 1)] rfl rfl ?_
      exact aw_end rfl rfl rfl rfl aw_ri ⟨rfl, 1, by decide, rfl, az_wk q2 (fun o2 t2 w => ⟨w.1, w.2.1, w.2.2.elim fun v w => ⟨v, w.1, fun w2 => absurd w2 (by decide)⟩⟩)⟩
    · exact absurd (show (none : Option Nat) = some E from hE) (fun w => by cases w)
    · exact absurd (show (none : Option Nat) = some E from hE) (fun w => by cases w)
theorem wl_tell {L : Nat} {xs : Nat → Int32} {s : az_S} {h : Nat} {gl : Nat → Nat → Int64} {gd : Nat → Nat → UInt64} {a : Int} (HC : zCs am_m_X9_tell am_m_X10_tell [az_i a] [3] s h) : aw_R L xs 13 am_m_L_tell 0 (am_ini (am_mL am_m_L_tell) (List.map az_e [az_r 0, az_i a, az_r 43])) [] s gl gd 1 (awP am_m_X10_tell [az_i a] h gd) := by
  refine aw_s 1 (am_ini (am_mL am_m_L_tell) (List.map az_e [az_r 0, az_i a, az_r 43])) (List.map az_e [az_r 43]) rfl rfl ?_
  refine aw_s 2 (am_ini (am_mL am_m_L_tell) (List.map az_e [az_r 0, az_i a, az_r 43])) (List.map az_e [az_i 0, az_r 43]) rfl rfl ?_
  refine aw_s 3 (am_ini (am_mL am_m_L_tell) (List.map az_e [az_r 0, az_i a, az_r 43])) (List.map az_e [az_r 0, az_i 0, az_r 43]) rfl rfl ?_
  refine aw_s 4 (am_ini (am_mL am_m_L_tell) (List.map az_e [az_r 0, az_i a, az_r 43])) (List.map az_e [az_i a, az_r 0, az_i 0, az_r 43]) rfl rfl ?_
  refine aw_c 7 (st := [az_i a, az_r 0, az_i 0, az_r 43]) rfl rfl rfl HC (fun v t q => ?_) (fun E t q => ?_)
  · obtain ⟨v0, rfl, q2⟩ := awP_v (k := 0) q
    refine aw_s 8 (am_ini (am_mL am_m_L_tell) (List.map az_e [az_r 0, az_i a, az_r 43])) [.long (Int32.ofInt v0).toInt64, .int (Int32.ofInt 0), .ref 43] rfl rfl ?_
    refine aw_h 9 [] t (am_up gl 43 0 (Int32.ofInt v0).toInt64) gd rfl rfl aw_ls rfl ?_
    refine aw_s 15 (am_ini (am_mL am_m_L_tell) (List.map az_e [az_r 0, az_i a, az_r 43])) [] rfl rfl ?_
    refine aw_s 16 (am_ini (am_mL am_m_L_tell) (List.map az_e [az_r 0, az_i a, az_r 43])) [.int (Int32.ofInt 0)] rfl rfl ?_
    exact aw_end rfl rfl rfl rfl aw_ri ⟨rfl, 0, by decide, rfl, az_wk q2 (fun o2 t2 w => ⟨w.1, w.2.1, v0, w.2.2, fun _ => rfl⟩)⟩
  · obtain ⟨j, hj, hE, q2⟩ := awP_E (by decide) q
    have hc : j = 0 ∨ j = 1 ∨ j = 2 := by omega
    rcases hc with rfl | rfl | rfl
    · obtain rfl : 3 = E := Option.some.inj hE
      refine ⟨12, 13, _, 0, rfl, rfl, rfl, ?_⟩
      refine aw_s 14 _ [.int (Int32.ofInt 1)] rfl rfl ?_
      exact aw_end rfl rfl rfl rfl aw_ri ⟨rfl, 1, by decide, rfl, az_wk q2 (fun o2 t2 w => ⟨w.1, w.2.1, w.2.2.elim fun v w => ⟨v, w.1, fun w2 => absurd w2 (by decide)⟩⟩)⟩
    · exact absurd (show (none : Option Nat) = some E from hE) (fun w => by cases w)
    · exact absurd (show (none : Option Nat) = some E from hE) (fun w => by cases w)
theorem wl_written {L : Nat} {xs : Nat → Int32} {s : az_S} {h : Nat} {gl : Nat → Nat → Int64} {gd : Nat → Nat → UInt64} {a : Int} (HC : zCs am_m_X9_written am_m_X10_written [az_i a] [5] s h) : aw_R L xs 13 am_m_L_written 0 (am_ini (am_mL am_m_L_written) (List.map az_e [az_r 0, az_i a, az_r 43])) [] s gl gd 1 (awP am_m_X10_written [az_i a] h gd) := by
  refine aw_s 1 (am_ini (am_mL am_m_L_written) (List.map az_e [az_r 0, az_i a, az_r 43])) (List.map az_e [az_r 43]) rfl rfl ?_
  refine aw_s 2 (am_ini (am_mL am_m_L_written) (List.map az_e [az_r 0, az_i a, az_r 43])) (List.map az_e [az_i 0, az_r 43]) rfl rfl ?_
  refine aw_s 3 (am_ini (am_mL am_m_L_written) (List.map az_e [az_r 0, az_i a, az_r 43])) (List.map az_e [az_r 0, az_i 0, az_r 43]) rfl rfl ?_
  refine aw_s 4 (am_ini (am_mL am_m_L_written) (List.map az_e [az_r 0, az_i a, az_r 43])) (List.map az_e [az_i a, az_r 0, az_i 0, az_r 43]) rfl rfl ?_
  refine aw_c 7 (st := [az_i a, az_r 0, az_i 0, az_r 43]) rfl rfl rfl HC (fun v t q => ?_) (fun E t q => ?_)
  · obtain ⟨v0, rfl, q2⟩ := awP_v (k := 0) q
    refine aw_s 8 (am_ini (am_mL am_m_L_written) (List.map az_e [az_r 0, az_i a, az_r 43])) [.long (Int32.ofInt v0).toInt64, .int (Int32.ofInt 0), .ref 43] rfl rfl ?_
    refine aw_h 9 [] t (am_up gl 43 0 (Int32.ofInt v0).toInt64) gd rfl rfl aw_ls rfl ?_
    refine aw_s 15 (am_ini (am_mL am_m_L_written) (List.map az_e [az_r 0, az_i a, az_r 43])) [] rfl rfl ?_
    refine aw_s 16 (am_ini (am_mL am_m_L_written) (List.map az_e [az_r 0, az_i a, az_r 43])) [.int (Int32.ofInt 0)] rfl rfl ?_
    exact aw_end rfl rfl rfl rfl aw_ri ⟨rfl, 0, by decide, rfl, az_wk q2 (fun o2 t2 w => ⟨w.1, w.2.1, v0, w.2.2, fun _ => rfl⟩)⟩
  · obtain ⟨j, hj, hE, q2⟩ := awP_E (by decide) q
    have hc : j = 0 ∨ j = 1 ∨ j = 2 := by omega
    rcases hc with rfl | rfl | rfl
    · obtain rfl : 5 = E := Option.some.inj hE
      refine ⟨12, 13, _, 0, rfl, rfl, rfl, ?_⟩
      refine aw_s 14 _ [.int (Int32.ofInt 1)] rfl rfl ?_
      exact aw_end rfl rfl rfl rfl aw_ri ⟨rfl, 1, by decide, rfl, az_wk q2 (fun o2 t2 w => ⟨w.1, w.2.1, w.2.2.elim fun v w => ⟨v, w.1, fun w2 => absurd w2 (by decide)⟩⟩)⟩
    · exact absurd (show (none : Option Nat) = some E from hE) (fun w => by cases w)
    · exact absurd (show (none : Option Nat) = some E from hE) (fun w => by cases w)
theorem wl_account {L : Nat} {xs : Nat → Int32} {s : az_S} {h : Nat} {gl : Nat → Nat → Int64} {gd : Nat → Nat → UInt64} {a : Int} (HC : zCs am_m_X9_account am_m_X10_account [az_i a] [1] s h) : aw_R L xs 13 am_m_L_account 0 (am_ini (am_mL am_m_L_account) (List.map az_e [az_r 0, az_i a, az_r 43])) [] s gl gd 1 (awP am_m_X10_account [az_i a] h gd) := by
  refine aw_s 1 (am_ini (am_mL am_m_L_account) (List.map az_e [az_r 0, az_i a, az_r 43])) (List.map az_e [az_r 43]) rfl rfl ?_
  refine aw_s 2 (am_ini (am_mL am_m_L_account) (List.map az_e [az_r 0, az_i a, az_r 43])) (List.map az_e [az_i 0, az_r 43]) rfl rfl ?_
  refine aw_s 3 (am_ini (am_mL am_m_L_account) (List.map az_e [az_r 0, az_i a, az_r 43])) (List.map az_e [az_r 0, az_i 0, az_r 43]) rfl rfl ?_
  refine aw_s 4 (am_ini (am_mL am_m_L_account) (List.map az_e [az_r 0, az_i a, az_r 43])) (List.map az_e [az_i a, az_r 0, az_i 0, az_r 43]) rfl rfl ?_
  refine aw_c 7 (st := [az_i a, az_r 0, az_i 0, az_r 43]) rfl rfl rfl HC (fun v t q => ?_) (fun E t q => ?_)
  · obtain ⟨v0, rfl, q2⟩ := awP_v (k := 0) q
    refine aw_s 8 (am_ini (am_mL am_m_L_account) (List.map az_e [az_r 0, az_i a, az_r 43])) [.long (Int32.ofInt v0).toInt64, .int (Int32.ofInt 0), .ref 43] rfl rfl ?_
    refine aw_h 9 [] t (am_up gl 43 0 (Int32.ofInt v0).toInt64) gd rfl rfl aw_ls rfl ?_
    refine aw_s 15 (am_ini (am_mL am_m_L_account) (List.map az_e [az_r 0, az_i a, az_r 43])) [] rfl rfl ?_
    refine aw_s 16 (am_ini (am_mL am_m_L_account) (List.map az_e [az_r 0, az_i a, az_r 43])) [.int (Int32.ofInt 0)] rfl rfl ?_
    exact aw_end rfl rfl rfl rfl aw_ri ⟨rfl, 0, by decide, rfl, az_wk q2 (fun o2 t2 w => ⟨w.1, w.2.1, v0, w.2.2, fun _ => rfl⟩)⟩
  · obtain ⟨j, hj, hE, q2⟩ := awP_E (by decide) q
    have hc : j = 0 ∨ j = 1 ∨ j = 2 := by omega
    rcases hc with rfl | rfl | rfl
    · obtain rfl : 1 = E := Option.some.inj hE
      refine ⟨12, 13, _, 0, rfl, rfl, rfl, ?_⟩
      refine aw_s 14 _ [.int (Int32.ofInt 1)] rfl rfl ?_
      exact aw_end rfl rfl rfl rfl aw_ri ⟨rfl, 1, by decide, rfl, az_wk q2 (fun o2 t2 w => ⟨w.1, w.2.1, w.2.2.elim fun v w => ⟨v, w.1, fun w2 => absurd w2 (by decide)⟩⟩)⟩
    · exact absurd (show (none : Option Nat) = some E from hE) (fun w => by cases w)
    · exact absurd (show (none : Option Nat) = some E from hE) (fun w => by cases w)
theorem wl_undo {L : Nat} {xs : Nat → Int32} {s : az_S} {h : Nat} {gl : Nat → Nat → Int64} {gd : Nat → Nat → UInt64} (HC : zCs am_m_X9_undo am_m_X10_undo [] [2] s h) : aw_R L xs 13 am_m_L_undo 0 (am_ini (am_mL am_m_L_undo) (List.map az_e [az_r 0, az_r 43])) [] s gl gd 1 (awP am_m_X10_undo [] h gd) := by
  refine aw_s 1 (am_ini (am_mL am_m_L_undo) (List.map az_e [az_r 0, az_r 43])) (List.map az_e [az_r 43]) rfl rfl ?_
  refine aw_s 2 (am_ini (am_mL am_m_L_undo) (List.map az_e [az_r 0, az_r 43])) (List.map az_e [az_i 0, az_r 43]) rfl rfl ?_
  refine aw_s 3 (am_ini (am_mL am_m_L_undo) (List.map az_e [az_r 0, az_r 43])) (List.map az_e [az_r 0, az_i 0, az_r 43]) rfl rfl ?_
  refine aw_c 6 (st := [az_r 0, az_i 0, az_r 43]) rfl rfl rfl HC (fun v t q => ?_) (fun E t q => ?_)
  · obtain ⟨v0, rfl, q2⟩ := awP_v (k := 0) q
    refine aw_s 7 (am_ini (am_mL am_m_L_undo) (List.map az_e [az_r 0, az_r 43])) [.long (Int32.ofInt v0).toInt64, .int (Int32.ofInt 0), .ref 43] rfl rfl ?_
    refine aw_h 8 [] t (am_up gl 43 0 (Int32.ofInt v0).toInt64) gd rfl rfl aw_ls rfl ?_
    refine aw_s 14 (am_ini (am_mL am_m_L_undo) (List.map az_e [az_r 0, az_r 43])) [] rfl rfl ?_
    refine aw_s 15 (am_ini (am_mL am_m_L_undo) (List.map az_e [az_r 0, az_r 43])) [.int (Int32.ofInt 0)] rfl rfl ?_
    exact aw_end rfl rfl rfl rfl aw_ri ⟨rfl, 0, by decide, rfl, az_wk q2 (fun o2 t2 w => ⟨w.1, w.2.1, v0, w.2.2, fun _ => rfl⟩)⟩
  · obtain ⟨j, hj, hE, q2⟩ := awP_E (by decide) q
    have hc : j = 0 ∨ j = 1 ∨ j = 2 := by omega
    rcases hc with rfl | rfl | rfl
    · obtain rfl : 2 = E := Option.some.inj hE
      refine ⟨11, 12, _, 0, rfl, rfl, rfl, ?_⟩
      refine aw_s 13 _ [.int (Int32.ofInt 1)] rfl rfl ?_
      exact aw_end rfl rfl rfl rfl aw_ri ⟨rfl, 1, by decide, rfl, az_wk q2 (fun o2 t2 w => ⟨w.1, w.2.1, w.2.2.elim fun v w => ⟨v, w.1, fun w2 => absurd w2 (by decide)⟩⟩)⟩
    · exact absurd (show (none : Option Nat) = some E from hE) (fun w => by cases w)
    · exact absurd (show (none : Option Nat) = some E from hE) (fun w => by cases w)
theorem wl_restore {L : Nat} {xs : Nat → Int32} {s : az_S} {h : Nat} {gl : Nat → Nat → Int64} {gd : Nat → Nat → UInt64} (HC : zCs am_m_X9_restore am_m_X10_restore [] [2] s h) : aw_R L xs 13 am_m_L_restore 0 (am_ini (am_mL am_m_L_restore) (List.map az_e [az_r 0, az_r 43])) [] s gl gd 1 (awP am_m_X10_restore [] h gd) := by
  refine aw_s 1 (am_ini (am_mL am_m_L_restore) (List.map az_e [az_r 0, az_r 43])) (List.map az_e [az_r 43]) rfl rfl ?_
  refine aw_s 2 (am_ini (am_mL am_m_L_restore) (List.map az_e [az_r 0, az_r 43])) (List.map az_e [az_i 0, az_r 43]) rfl rfl ?_
  refine aw_s 3 (am_ini (am_mL am_m_L_restore) (List.map az_e [az_r 0, az_r 43])) (List.map az_e [az_r 0, az_i 0, az_r 43]) rfl rfl ?_
  refine aw_c 6 (st := [az_r 0, az_i 0, az_r 43]) rfl rfl rfl HC (fun v t q => ?_) (fun E t q => ?_)
  · obtain ⟨v0, rfl, q2⟩ := awP_v (k := 0) q
    refine aw_s 7 (am_ini (am_mL am_m_L_restore) (List.map az_e [az_r 0, az_r 43])) [.long (Int32.ofInt v0).toInt64, .int (Int32.ofInt 0), .ref 43] rfl rfl ?_
    refine aw_h 8 [] t (am_up gl 43 0 (Int32.ofInt v0).toInt64) gd rfl rfl aw_ls rfl ?_
    refine aw_s 14 (am_ini (am_mL am_m_L_restore) (List.map az_e [az_r 0, az_r 43])) [] rfl rfl ?_
    refine aw_s 15 (am_ini (am_mL am_m_L_restore) (List.map az_e [az_r 0, az_r 43])) [.int (Int32.ofInt 0)] rfl rfl ?_
    exact aw_end rfl rfl rfl rfl aw_ri ⟨rfl, 0, by decide, rfl, az_wk q2 (fun o2 t2 w => ⟨w.1, w.2.1, v0, w.2.2, fun _ => rfl⟩)⟩
  · obtain ⟨j, hj, hE, q2⟩ := awP_E (by decide) q
    have hc : j = 0 ∨ j = 1 ∨ j = 2 := by omega
    rcases hc with rfl | rfl | rfl
    · obtain rfl : 2 = E := Option.some.inj hE
      refine ⟨11, 12, _, 0, rfl, rfl, rfl, ?_⟩
      refine aw_s 13 _ [.int (Int32.ofInt 1)] rfl rfl ?_
      exact aw_end rfl rfl rfl rfl aw_ri ⟨rfl, 1, by decide, rfl, az_wk q2 (fun o2 t2 w => ⟨w.1, w.2.1, w.2.2.elim fun v w => ⟨v, w.1, fun w2 => absurd w2 (by decide)⟩⟩)⟩
    · exact absurd (show (none : Option Nat) = some E from hE) (fun w => by cases w)
    · exact absurd (show (none : Option Nat) = some E from hE) (fun w => by cases w)
