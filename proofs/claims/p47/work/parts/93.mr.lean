/-! THE TEXT THAT acts PUTS TOGETHER, 3: the walk -/
theorem mc_in {j : Int32} {n : Nat} (h : am_in j n = true) : j = nI j.toNatClampNeg ∧ j.toNatClampNeg < n := by
  have h2 : ¬ (j < 0 ∨ n ≤ j.toNatClampNeg) := of_decide_eq_true h
  have hz0 : (0 : Int) ≤ j.toInt := by
    have := Int32.not_lt.mp (fun w => h2 (Or.inl w))
    simpa using Int32.le_iff_toInt_le.mp this
  have hz : j.toInt = ((j.toNatClampNeg : Nat) : Int) := by
    show j.toInt = ((j.toInt.toNat : Nat) : Int)
    omega
  refine ⟨?_, Nat.not_le.mp (fun w => h2 (Or.inr w))⟩
  rw [js_oi, ← hz]
  exact (Int32.ofInt_toInt j).symm
theorem mc_m3 : ∀ c, c < 11 → nI c - nI c / 3 * 3 = nI (c % 3) := by decide +kernel
theorem mc_k0 : "".length = 0 := rfl
theorem mc_k1 : "post ".length = 5 := rfl
theorem mc_k2 : " ".length = 1 := rfl
theorem mc_k3 : ";pass ".length = 6 := rfl
theorem mc_k4 : ";cross ".length = 7 := rfl
theorem mc_k5 : ";fog ".length = 5 := rfl
theorem mc_k6 : ";settle ".length = 8 := rfl
theorem mc_k7 : "+".length = 1 := rfl
theorem mc_dl {v : Nat} (h : v < 100) : (am_dg v).length ≤ 2 ∧ (v < 10 → (am_dg v).length = 1) := by
  rw [(mc_dg v h).1]
  unfold js_dg
  refine ⟨?_, fun h => if_pos h⟩
  split <;> omega
theorem mc_ty : ∀ q ∈ mc_z, q.2.length < 100 ∧ ∀ c ∈ q.2.toList, c.toNat < 128 := by decide +kernel
section MCR
variable {p : Program} {l : Launch} {e : Env} {R : Room} {s s0 : State} {m : MethodId} {args : Array Value} {below : List Frame} {meth : Method} {c : Code} {H Hc : Heap} {locs : List Loc} {cells slots : Nat} {Q : State → Prop}
variable {ls : Array Slot} {rest : List Value} {A G : Nat → Prop} {H0 : Heap} {D : va_G} {cB : ClassId} {EV : State → Heap → Prop} {va vb vc : Nat}
theorem mc_zs (hF : ev_F s0) (hB : ev_B s0 G EV) (hE : EV s H) {q : (Nat × Nat) × String} (hq : q ∈ mc_z) : ∃ a v : Nat, vk_R (am_cn q.1.1) q.1.2 q.2 a s ∧ ∀ (U : State) (H : Heap), EV U H → ev_S G q.2 a v U H := by
  obtain ⟨a, v, h1, h2⟩ := ev_str hF hB.1 (show q ∈ ev_z from List.mem_append_right _ hq)
  exact ⟨a, v, vk_R.warm (hB.2 _ _ hE).1 h1, fun U H h => h2.at hB h⟩
/-- what a text put together is: a String at o over a row x, both new behind Hc -/
def mc_N (s : State) (A : Nat → Prop) (Hc : Heap) (ty : String) (o x : Nat) (H1 : Heap) (locs1 : List Loc) : Prop := (Hc.size ≤ o ∧ o < H1.size) ∧ (Hc.size ≤ x ∧ x < H1.size) ∧ (∀ A1 : Nat → Prop, ¬ A1 o → ¬ A1 x → ev_S A1 ty o x s H1) ∧ (∀ q : Nat, q < Hc.size → H1[q]? = Hc[q]?) ∧ Hc.size ≤ H1.size ∧ ∀ z ∈ locs1, A z.base
theorem mc_Nof {ty0 tx : String} {a0 v0 b d cap : Nat} {f g : Nat → Int32} {ml : Int32} {o x : Nat} {H1 : Heap} {locs1 : List Loc} (hz : ev_S G ty0 a0 v0 s H1) (hK : va_K D js_cl (js_ty cB) s) (hP : va_P D js_cl (js_b cB b d cap tx.length ml f ++ [(o, .inr (1, [.ref x, .int 0, .int 0, .int 0])), (x, .inl (cB, tx.length, .inl g))]) H1) (hD : va_D G (js_b cB b d cap tx.length ml f ++ [(o, .inr (1, [.ref x, .int 0, .int 0, .int 0])), (x, .inl (cB, tx.length, .inl g))])) (hg : ∀ j, j < tx.length → g j = (ev_by tx).getD j 0) (hS : va_S G H0 H1 []) (hlc : ∀ z ∈ locs1, A z.base) (h0 : Hc.size ≤ H0.size ∧ ∀ q : Nat, q < Hc.size → H0[q]? = Hc[q]?) (hG : ∀ q, G q → Hc.size ≤ q) : mc_N s A Hc tx o x H1 locs1 := by
  refine ⟨⟨hG _ (hD.2 2 _ rfl), (hP 2 _ rfl).lt⟩, ⟨hG _ (hD.2 3 _ rfl), (hP 3 _ rfl).lt⟩, fun A1 h1 h2 => mc_S hz hK hP (q0 := 2) (q1 := 3) rfl rfl rfl hg h1 h2, fun q hq => ?_, Nat.le_trans h0.1 hS.1, hlc⟩
  rw [hS.2.1 q (Nat.lt_of_lt_of_le hq h0.1) (fun w => absurd (hG q w) (by omega))]
  exact h0.2 q hq
set_option maxHeartbeats 1000000 in
theorem mc_pass (hg : ∀ w ∈ am_WS jsW, goodWord w = true) (hF : ev_F s0) (hB : ev_B s0 G EV) (F : mc_Fr D cB p R s m args c ls) (l3 : ls[3]? = some (.val (.int (nI va)))) (l4 : ls[4]? = some (.val (.int (nI vb)))) (l5 : ls[5]? = some (.val (.int (nI vc)))) (b3 : va < 7) (b4 : vb < 9) (b5 : vc < 11) (hcR : cells + 12 ≤ R.cells) (hsR : slots + 700 ≤ R.slots) (C : mc_C G A EV s H) (hG9 : ∀ q, G q → H.size ≤ q) (hlc : ∀ z ∈ locs, A z.base) {b0 i0 : Nat} (k : ∀ (o x : Nat) (H1 : Heap) (locs1 : List Loc), mc_N s A H ("" ++ ";pass " ++ am_dg vc) o x H1 locs1 → W p l e R s m args below meth c H1 locs1 (cells + 12) (slots + 700) Q (F0 m 424 ls [.ref o, .ref b0, .ref i0])) : W p l e R s m args below meth c H locs cells slots Q (F0 m 316 ls [.ref b0, .ref i0]) := by
  obtain ⟨n3, n3'⟩ := mc_dl (v := va) (by omega)
  have n3 := n3' (by omega)
  obtain ⟨n4, n4'⟩ := mc_dl (v := vb) (by omega)
  have n4 := n4' (by omega)
  obtain ⟨n5, -⟩ := mc_dl (v := vc) (by omega)
  have hE : EV s H := C.2.2.2.2.1
  have hz : ∀ H1 : Heap, va_S G H H1 [] → EV s H1 := fun H1 h => C.1.2 s H H1 (fun a h1 h2 => h.2.1 a h1 h2) hE
  obtain ⟨oz, vz, -, hsz⟩ := mc_zs hF hB hE (q := ((11, 174), " ")) (List.mem_of_getElem? (i := 1) rfl)
  refine mc_new hg F C hlc (show decode cL_acts 316 = .ok (.new 162, 3) by decide +kernel) (show decode cL_acts 319 = .ok (.dup, 1) by decide +kernel) (show decode cL_acts 320 = .ok (.invokespecial 164, 3) by decide +kernel) (by omega) (by omega) (Nat.le_of_ble_eq_true rfl) (fun b H locs hI => ?_)
  obtain ⟨o323, v323, hr323, hs323⟩ := mc_zs hF hB hE (q := ((11, 176), ";pass ")) (List.mem_of_getElem? (i := 2) rfl)
  refine va_ldcS F.1 F.2.1 F.2.2.2.1 hr323 (show decode cL_acts 323 = .ok (.ldc 176, 2) by decide +kernel) ?_
  refine mc_app hg F C hI hs323 (mc_ty ((11, 176), ";pass ") (List.mem_of_getElem? (i := 2) rfl)) (by simp only [mc_len, mc_k0, mc_k1, mc_k2, mc_k3, mc_k4, mc_k5, mc_k6, mc_k7]; omega) (show decode cL_acts 325 = .ok (.invokevirtual 167, 3) by decide +kernel) (by omega) (by omega) (Nat.le_of_ble_eq_true rfl) (fun H locs hI => ?_)
  refine lv_iload F.1 F.2.1 (show decode cL_acts 328 = .ok (.iload 5, 2) by decide +kernel) l5 ?_
  refine mc_num hg F C hI (v0 := vc) (by omega) (by simp only [mc_len, mc_k0, mc_k1, mc_k2, mc_k3, mc_k4, mc_k5, mc_k6, mc_k7]; omega) (show decode cL_acts 330 = .ok (.invokevirtual 171, 3) by decide +kernel) (by omega) (by omega) (Nat.le_of_ble_eq_true rfl) (fun H locs hI => ?_)
  refine mc_str hg F C hI (show decode cL_acts 333 = .ok (.invokevirtual 178, 3) by decide +kernel) (by omega) (by omega) (Nat.le_of_ble_eq_true rfl) (fun d cap f ml o x g H1 locs1 hP hD hg9 hS9 hlc9 => ?_)
  refine lv_goto F.1 F.2.1 (show decode cL_acts 336 = .ok (.goto 88, 3) by decide +kernel) (tgt := 424) (by decide) ?_
  exact W.widen (by omega) (by omega) (k o x H1 locs1 (mc_Nof (hsz _ _ (hz H1 hS9)) F.2.2.2.2.2.2.2 hP hD hg9 hS9 hlc9 ⟨Nat.le_refl _, fun _ _ => rfl⟩ hG9))
set_option maxHeartbeats 1000000 in
theorem mc_cross (hg : ∀ w ∈ am_WS jsW, goodWord w = true) (hF : ev_F s0) (hB : ev_B s0 G EV) (F : mc_Fr D cB p R s m args c ls) (l3 : ls[3]? = some (.val (.int (nI va)))) (l4 : ls[4]? = some (.val (.int (nI vb)))) (l5 : ls[5]? = some (.val (.int (nI vc)))) (b3 : va < 7) (b4 : vb < 9) (b5 : vc < 11) (hcR : cells + 12 ≤ R.cells) (hsR : slots + 700 ≤ R.slots) (C : mc_C G A EV s H) (hG9 : ∀ q, G q → H.size ≤ q) (hlc : ∀ z ∈ locs, A z.base) {b0 i0 : Nat} (k : ∀ (o x : Nat) (H1 : Heap) (locs1 : List Loc), mc_N s A H ("" ++ ";cross " ++ am_dg va ++ " " ++ am_dg vb) o x H1 locs1 → W p l e R s m args below meth c H1 locs1 (cells + 12) (slots + 700) Q (F0 m 424 ls [.ref o, .ref b0, .ref i0])) : W p l e R s m args below meth c H locs cells slots Q (F0 m 347 ls [.ref b0, .ref i0]) := by
  obtain ⟨n3, n3'⟩ := mc_dl (v := va) (by omega)
  have n3 := n3' (by omega)
  obtain ⟨n4, n4'⟩ := mc_dl (v := vb) (by omega)
  have n4 := n4' (by omega)
  obtain ⟨n5, -⟩ := mc_dl (v := vc) (by omega)
  have hE : EV s H := C.2.2.2.2.1
  have hz : ∀ H1 : Heap, va_S G H H1 [] → EV s H1 := fun H1 h => C.1.2 s H H1 (fun a h1 h2 => h.2.1 a h1 h2) hE
  obtain ⟨oz, vz, -, hsz⟩ := mc_zs hF hB hE (q := ((11, 174), " ")) (List.mem_of_getElem? (i := 1) rfl)
  refine mc_new hg F C hlc (show decode cL_acts 347 = .ok (.new 162, 3) by decide +kernel) (show decode cL_acts 350 = .ok (.dup, 1) by decide +kernel) (show decode cL_acts 351 = .ok (.invokespecial 164, 3) by decide +kernel) (by omega) (by omega) (Nat.le_of_ble_eq_true rfl) (fun b H locs hI => ?_)
  obtain ⟨o354, v354, hr354, hs354⟩ := mc_zs hF hB hE (q := ((11, 182), ";cross ")) (List.mem_of_getElem? (i := 3) rfl)
  refine va_ldcS F.1 F.2.1 F.2.2.2.1 hr354 (show decode cL_acts 354 = .ok (.ldc 182, 2) by decide +kernel) ?_
  refine mc_app hg F C hI hs354 (mc_ty ((11, 182), ";cross ") (List.mem_of_getElem? (i := 3) rfl)) (by simp only [mc_len, mc_k0, mc_k1, mc_k2, mc_k3, mc_k4, mc_k5, mc_k6, mc_k7]; omega) (show decode cL_acts 356 = .ok (.invokevirtual 167, 3) by decide +kernel) (by omega) (by omega) (Nat.le_of_ble_eq_true rfl) (fun H locs hI => ?_)
  refine lv_iload_n F.1 F.2.1 (show decode cL_acts 359 = .ok (.iload_n 3, 1) by decide +kernel) rfl l3 ?_
  refine mc_num hg F C hI (v0 := va) (by omega) (by simp only [mc_len, mc_k0, mc_k1, mc_k2, mc_k3, mc_k4, mc_k5, mc_k6, mc_k7]; omega) (show decode cL_acts 360 = .ok (.invokevirtual 171, 3) by decide +kernel) (by omega) (by omega) (Nat.le_of_ble_eq_true rfl) (fun H locs hI => ?_)
  obtain ⟨o363, v363, hr363, hs363⟩ := mc_zs hF hB hE (q := ((11, 174), " ")) (List.mem_of_getElem? (i := 1) rfl)
  refine va_ldcS F.1 F.2.1 F.2.2.2.1 hr363 (show decode cL_acts 363 = .ok (.ldc 174, 2) by decide +kernel) ?_
  refine mc_app hg F C hI hs363 (mc_ty ((11, 174), " ") (List.mem_of_getElem? (i := 1) rfl)) (by simp only [mc_len, mc_k0, mc_k1, mc_k2, mc_k3, mc_k4, mc_k5, mc_k6, mc_k7]; omega) (show decode cL_acts 365 = .ok (.invokevirtual 167, 3) by decide +kernel) (by omega) (by omega) (Nat.le_of_ble_eq_true rfl) (fun H locs hI => ?_)
  refine lv_iload F.1 F.2.1 (show decode cL_acts 368 = .ok (.iload 4, 2) by decide +kernel) l4 ?_
  refine mc_num hg F C hI (v0 := vb) (by omega) (by simp only [mc_len, mc_k0, mc_k1, mc_k2, mc_k3, mc_k4, mc_k5, mc_k6, mc_k7]; omega) (show decode cL_acts 370 = .ok (.invokevirtual 171, 3) by decide +kernel) (by omega) (by omega) (Nat.le_of_ble_eq_true rfl) (fun H locs hI => ?_)
  refine mc_str hg F C hI (show decode cL_acts 373 = .ok (.invokevirtual 178, 3) by decide +kernel) (by omega) (by omega) (Nat.le_of_ble_eq_true rfl) (fun d cap f ml o x g H1 locs1 hP hD hg9 hS9 hlc9 => ?_)
  refine lv_goto F.1 F.2.1 (show decode cL_acts 376 = .ok (.goto 48, 3) by decide +kernel) (tgt := 424) (by decide) ?_
  exact W.widen (by omega) (by omega) (k o x H1 locs1 (mc_Nof (hsz _ _ (hz H1 hS9)) F.2.2.2.2.2.2.2 hP hD hg9 hS9 hlc9 ⟨Nat.le_refl _, fun _ _ => rfl⟩ hG9))
set_option maxHeartbeats 1000000 in
theorem mc_fog (hg : ∀ w ∈ am_WS jsW, goodWord w = true) (hF : ev_F s0) (hB : ev_B s0 G EV) (F : mc_Fr D cB p R s m args c ls) (l3 : ls[3]? = some (.val (.int (nI va)))) (l4 : ls[4]? = some (.val (.int (nI vb)))) (l5 : ls[5]? = some (.val (.int (nI vc)))) (b3 : va < 7) (b4 : vb < 9) (b5 : vc < 11) (hcR : cells + 12 ≤ R.cells) (hsR : slots + 700 ≤ R.slots) (C : mc_C G A EV s H) (hG9 : ∀ q, G q → H.size ≤ q) (hlc : ∀ z ∈ locs, A z.base) {b0 i0 : Nat} (k : ∀ (o x : Nat) (H1 : Heap) (locs1 : List Loc), mc_N s A H ("" ++ ";fog " ++ am_dg vb ++ " " ++ am_dg vc ++ ";settle " ++ am_dg vb ++ "+") o x H1 locs1 → W p l e R s m args below meth c H1 locs1 (cells + 12) (slots + 700) Q (F0 m 424 ls [.ref o, .ref b0, .ref i0])) : W p l e R s m args below meth c H locs cells slots Q (F0 m 379 ls [.ref b0, .ref i0]) := by
  obtain ⟨n3, n3'⟩ := mc_dl (v := va) (by omega)
  have n3 := n3' (by omega)
  obtain ⟨n4, n4'⟩ := mc_dl (v := vb) (by omega)
  have n4 := n4' (by omega)
  obtain ⟨n5, -⟩ := mc_dl (v := vc) (by omega)
  have hE : EV s H := C.2.2.2.2.1
  have hz : ∀ H1 : Heap, va_S G H H1 [] → EV s H1 := fun H1 h => C.1.2 s H H1 (fun a h1 h2 => h.2.1 a h1 h2) hE
  obtain ⟨oz, vz, -, hsz⟩ := mc_zs hF hB hE (q := ((11, 174), " ")) (List.mem_of_getElem? (i := 1) rfl)
  refine mc_new hg F C hlc (show decode cL_acts 379 = .ok (.new 162, 3) by decide +kernel) (show decode cL_acts 382 = .ok (.dup, 1) by decide +kernel) (show decode cL_acts 383 = .ok (.invokespecial 164, 3) by decide +kernel) (by omega) (by omega) (Nat.le_of_ble_eq_true rfl) (fun b H locs hI => ?_)
  obtain ⟨o386, v386, hr386, hs386⟩ := mc_zs hF hB hE (q := ((11, 184), ";fog ")) (List.mem_of_getElem? (i := 4) rfl)
  refine va_ldcS F.1 F.2.1 F.2.2.2.1 hr386 (show decode cL_acts 386 = .ok (.ldc 184, 2) by decide +kernel) ?_
  refine mc_app hg F C hI hs386 (mc_ty ((11, 184), ";fog ") (List.mem_of_getElem? (i := 4) rfl)) (by simp only [mc_len, mc_k0, mc_k1, mc_k2, mc_k3, mc_k4, mc_k5, mc_k6, mc_k7]; omega) (show decode cL_acts 388 = .ok (.invokevirtual 167, 3) by decide +kernel) (by omega) (by omega) (Nat.le_of_ble_eq_true rfl) (fun H locs hI => ?_)
  refine lv_iload F.1 F.2.1 (show decode cL_acts 391 = .ok (.iload 4, 2) by decide +kernel) l4 ?_
  refine mc_num hg F C hI (v0 := vb) (by omega) (by simp only [mc_len, mc_k0, mc_k1, mc_k2, mc_k3, mc_k4, mc_k5, mc_k6, mc_k7]; omega) (show decode cL_acts 393 = .ok (.invokevirtual 171, 3) by decide +kernel) (by omega) (by omega) (Nat.le_of_ble_eq_true rfl) (fun H locs hI => ?_)
  obtain ⟨o396, v396, hr396, hs396⟩ := mc_zs hF hB hE (q := ((11, 174), " ")) (List.mem_of_getElem? (i := 1) rfl)
  refine va_ldcS F.1 F.2.1 F.2.2.2.1 hr396 (show decode cL_acts 396 = .ok (.ldc 174, 2) by decide +kernel) ?_
  refine mc_app hg F C hI hs396 (mc_ty ((11, 174), " ") (List.mem_of_getElem? (i := 1) rfl)) (by simp only [mc_len, mc_k0, mc_k1, mc_k2, mc_k3, mc_k4, mc_k5, mc_k6, mc_k7]; omega) (show decode cL_acts 398 = .ok (.invokevirtual 167, 3) by decide +kernel) (by omega) (by omega) (Nat.le_of_ble_eq_true rfl) (fun H locs hI => ?_)
  refine lv_iload F.1 F.2.1 (show decode cL_acts 401 = .ok (.iload 5, 2) by decide +kernel) l5 ?_
  refine mc_num hg F C hI (v0 := vc) (by omega) (by simp only [mc_len, mc_k0, mc_k1, mc_k2, mc_k3, mc_k4, mc_k5, mc_k6, mc_k7]; omega) (show decode cL_acts 403 = .ok (.invokevirtual 171, 3) by decide +kernel) (by omega) (by omega) (Nat.le_of_ble_eq_true rfl) (fun H locs hI => ?_)
  obtain ⟨o406, v406, hr406, hs406⟩ := mc_zs hF hB hE (q := ((11, 186), ";settle ")) (List.mem_of_getElem? (i := 5) rfl)
  refine va_ldcS F.1 F.2.1 F.2.2.2.1 hr406 (show decode cL_acts 406 = .ok (.ldc 186, 2) by decide +kernel) ?_
  refine mc_app hg F C hI hs406 (mc_ty ((11, 186), ";settle ") (List.mem_of_getElem? (i := 5) rfl)) (by simp only [mc_len, mc_k0, mc_k1, mc_k2, mc_k3, mc_k4, mc_k5, mc_k6, mc_k7]; omega) (show decode cL_acts 408 = .ok (.invokevirtual 167, 3) by decide +kernel) (by omega) (by omega) (Nat.le_of_ble_eq_true rfl) (fun H locs hI => ?_)
  refine lv_iload F.1 F.2.1 (show decode cL_acts 411 = .ok (.iload 4, 2) by decide +kernel) l4 ?_
  refine mc_num hg F C hI (v0 := vb) (by omega) (by simp only [mc_len, mc_k0, mc_k1, mc_k2, mc_k3, mc_k4, mc_k5, mc_k6, mc_k7]; omega) (show decode cL_acts 413 = .ok (.invokevirtual 171, 3) by decide +kernel) (by omega) (by omega) (Nat.le_of_ble_eq_true rfl) (fun H locs hI => ?_)
  obtain ⟨o416, v416, hr416, hs416⟩ := mc_zs hF hB hE (q := ((11, 188), "+")) (List.mem_of_getElem? (i := 6) rfl)
  refine va_ldcS F.1 F.2.1 F.2.2.2.1 hr416 (show decode cL_acts 416 = .ok (.ldc 188, 2) by decide +kernel) ?_
  refine mc_app hg F C hI hs416 (mc_ty ((11, 188), "+") (List.mem_of_getElem? (i := 6) rfl)) (by simp only [mc_len, mc_k0, mc_k1, mc_k2, mc_k3, mc_k4, mc_k5, mc_k6, mc_k7]; omega) (show decode cL_acts 418 = .ok (.invokevirtual 167, 3) by decide +kernel) (by omega) (by omega) (Nat.le_of_ble_eq_true rfl) (fun H locs hI => ?_)
  refine mc_str hg F C hI (show decode cL_acts 421 = .ok (.invokevirtual 178, 3) by decide +kernel) (by omega) (by omega) (Nat.le_of_ble_eq_true rfl) (fun d cap f ml o x g H1 locs1 hP hD hg9 hS9 hlc9 => ?_)
  exact W.widen (by omega) (by omega) (k o x H1 locs1 (mc_Nof (hsz _ _ (hz H1 hS9)) F.2.2.2.2.2.2.2 hP hD hg9 hS9 hlc9 ⟨Nat.le_refl _, fun _ _ => rfl⟩ hG9))
/-- the text's second half -/
def mc_t2 (va vb vc : Nat) : String := if vc % 3 = 0 then ";pass " ++ am_dg vc else if vc % 3 = 1 then ";cross " ++ am_dg va ++ " " ++ am_dg vb else ";fog " ++ am_dg vb ++ " " ++ am_dg vc ++ ";settle " ++ am_dg vb ++ "+"
theorem mc_half (hg : ∀ w ∈ am_WS jsW, goodWord w = true) (hF : ev_F s0) (hB : ev_B s0 G EV) (F : mc_Fr D cB p R s m args c ls) (l3 : ls[3]? = some (.val (.int (nI va)))) (l4 : ls[4]? = some (.val (.int (nI vb)))) (l5 : ls[5]? = some (.val (.int (nI vc)))) (b3 : va < 7) (b4 : vb < 9) (b5 : vc < 11) (hcR : cells + 12 ≤ R.cells) (hsR : slots + 700 ≤ R.slots) (C : mc_C G A EV s H) (hG9 : ∀ q, G q → H.size ≤ q) (hlc : ∀ z ∈ locs, A z.base) {b0 i0 : Nat} (k : ∀ (o x : Nat) (H1 : Heap) (locs1 : List Loc), mc_N s A H (mc_t2 va vb vc) o x H1 locs1 → W p l e R s m args below meth c H1 locs1 (cells + 12) (slots + 700) Q (F0 m 424 ls [.ref o, .ref b0, .ref i0])) : W p l e R s m args below meth c H locs cells slots Q (F0 m 309 ls [.ref b0, .ref i0]) := by
  have e0 : ∀ t : String, "" ++ t = t := fun t => String.empty_append
  have h3 := mc_m3 vc b5
  refine lv_iload F.1 F.2.1 (show decode cL_acts 309 = .ok (.iload 5, 2) by decide +kernel) l5 ?_
  refine lv_iconst F.1 F.2.1 (v := 3) (show decode cL_acts 311 = .ok (.iconst 3, 1) by decide +kernel) (by decide) ?_
  refine lv_irem F.1 F.2.1 (show decode cL_acts 312 = .ok (.irem, 1) by decide +kernel) (by decide) ?_
  rw [h3]
  refine lv_if_ne F.1 F.2.1 (show decode cL_acts 313 = .ok (.ifCond .ne 26, 3) by decide +kernel) (tgt := 339) (by decide) (fun h => ?_) (fun h => ?_)
  · have hne : ¬ vc % 3 = 0 := fun w => h (by rw [w]; rfl)
    refine lv_iload F.1 F.2.1 (show decode cL_acts 339 = .ok (.iload 5, 2) by decide +kernel) l5 ?_
    refine lv_iconst F.1 F.2.1 (v := 3) (show decode cL_acts 341 = .ok (.iconst 3, 1) by decide +kernel) (by decide) ?_
    refine lv_irem F.1 F.2.1 (show decode cL_acts 342 = .ok (.irem, 1) by decide +kernel) (by decide) ?_
    rw [h3]
    refine lv_iconst F.1 F.2.1 (v := 1) (show decode cL_acts 343 = .ok (.iconst 1, 1) by decide +kernel) (by decide) ?_
    refine lv_icmp_ne F.1 F.2.1 (show decode cL_acts 344 = .ok (.if_icmp .ne 35, 3) by decide +kernel) (tgt := 379) (by decide) (fun h => ?_) (fun h => ?_)
    · have hn1 : ¬ vc % 3 = 1 := fun w => h (by rw [w]; rfl)
      refine mc_fog hg hF hB F l3 l4 l5 b3 b4 b5 hcR hsR C hG9 hlc (fun o x H1 locs1 hN => k o x H1 locs1 ?_)
      rw [e0] at hN
      unfold mc_t2
      rw [if_neg hne, if_neg hn1]
      exact hN
    · have hn1 : vc % 3 = 1 := (nI_eq (a := vc % 3) (b := 1) (by omega) (by decide)).mp h
      refine mc_cross hg hF hB F l3 l4 l5 b3 b4 b5 hcR hsR C hG9 hlc (fun o x H1 locs1 hN => k o x H1 locs1 ?_)
      rw [e0] at hN
      unfold mc_t2
      rw [if_neg hne, if_pos hn1]
      exact hN
  · have hn1 : vc % 3 = 0 := (nI_eq (a := vc % 3) (b := 0) (by omega) (by decide)).mp h
    refine mc_pass hg hF hB F l3 l4 l5 b3 b4 b5 hcR hsR C hG9 hlc (fun o x H1 locs1 hN => k o x H1 locs1 ?_)
    rw [e0] at hN
    unfold mc_t2
    rw [if_pos hn1]
    exact hN
end MCR
