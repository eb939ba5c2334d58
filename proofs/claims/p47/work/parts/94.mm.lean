/-! THE TEXT THAT acts PUTS TOGETHER, 4: from its first row to the call -/
theorem mc_t2k : ∀ a, a < 7 → ∀ b, b < 9 → ∀ c, c < 11 → (mc_t2 a b c).length ≤ 20 ∧ ∀ ch ∈ (mc_t2 a b c).toList, ch.toNat < 128 := by decide +kernel
theorem mc_txk : ∀ a, a < 7 → ∀ b, b < 9 → ∀ c, c < 11 → (am_text a b c).length < 100 ∧ ∀ ch ∈ (am_text a b c).toList, ch.toNat < 128 := by decide +kernel
theorem mc_Em {A G : Nat → Prop} {EV : State → Heap → Prop} {ty : String} {o x : Nat} (hm : am_EVm A EV) (hAA : ∀ q, G q → A q) : am_EVm G (mc_E G EV ty o x) := ⟨fun u U H hW h => ⟨hm.1 u U H hW h.1, h.2.go hW.alike (fun _ _ _ => rfl)⟩, fun U H H1 hq h => ⟨hm.2 U H H1 (fun a h1 h2 => hq a h1 (fun w => h2 (hAA a w))) h.1, h.2.go (Vm.Alike.refl _) hq⟩⟩
theorem mc_Eg {A G : Nat → Prop} {EV : State → Heap → Prop} (hm : am_EVm A EV) (hAA : ∀ q, G q → A q) : am_EVm G EV := ⟨hm.1, fun U H H1 hq h => hm.2 U H H1 (fun a h1 h2 => hq a h1 (fun w => h2 (hAA a w))) h⟩
theorem mc_Cof {s0 s : State} (hF : ev_F s0) {G A : Nat → Prop} {EV : State → Heap → Prop} {H : Heap} (hB : ev_B s0 G EV) (hm : am_EVm G EV) (hE : EV s H) (h0 : ∀ q : Nat, H.size ≤ q → G q) (hGA : ∀ q, G q → A q) : mc_C G A EV s H := ⟨hm, ss_Bo hF hB, mc_T hF hB, mc_cl hF hB, hE, h0, hGA⟩
section MCM
variable {p : Program} {l : Launch} {e : Env} {R : Room} {s s0 : State} {m : MethodId} {args : Array Value} {below : List Frame} {meth : Method} {c : Code} {Hb : Heap} {locs : List Loc} {cells slots : Nat} {Q : State → Prop}
variable {ls : Array Slot} {A : Nat → Prop} {D : va_G} {cB : ClassId} {EV : State → Heap → Prop} {va vb vc : Nat}
set_option maxHeartbeats 1000000 in
theorem mc_main (hg : ∀ w ∈ am_WS jsW, goodWord w = true) (hF : ev_F s0) (hB0 : ev_B s0 A EV) (hm0 : am_EVm A EV) (F : mc_Fr D cB p R s m args c ls) (l3 : ls[3]? = some (.val (.int (nI va)))) (l4 : ls[4]? = some (.val (.int (nI vb)))) (l5 : ls[5]? = some (.val (.int (nI vc)))) (b3 : va < 7) (b4 : vb < 9) (b5 : vc < 11) (hcR : cells + 24 ≤ R.cells) (hsR : slots + 4000 ≤ R.slots) (hE : EV s Hb) (hA : ∀ q : Nat, Hb.size ≤ q → A q) (hlc : ∀ z ∈ locs, A z.base) {i0 : Nat}
    (k : ∀ (o x : Nat) (H1 : Heap) (locs1 : List Loc), mc_N s A Hb (am_text va vb vc) o x H1 locs1 → W p l e R s m args below meth c H1 locs1 (cells + 24) (slots + 4000) Q (F0 m 430 ls [.ref o, .ref i0])) : W p l e R s m args below meth c Hb locs cells slots Q (F0 m 283 ls [.ref i0]) := by
  obtain ⟨n3, n3'⟩ := mc_dl (v := va) (by omega)
  have n3 := n3' (by omega)
  obtain ⟨n4, n4'⟩ := mc_dl (v := vb) (by omega)
  have n4 := n4' (by omega)
  have hB : ev_B s0 (fun q => Hb.size ≤ q) EV := ⟨fun a h1 h2 => hB0.1 a h1 (hA a h2), hB0.2⟩
  have C : mc_C (fun q => Hb.size ≤ q) A EV s Hb := mc_Cof hF hB (mc_Eg hm0 hA) hE (fun q h => h) hA
  refine mc_new hg F C hlc (show decode cL_acts 283 = .ok (.new 162, 3) by decide +kernel) (show decode cL_acts 286 = .ok (.dup, 1) by decide +kernel) (show decode cL_acts 287 = .ok (.invokespecial 164, 3) by decide +kernel) (by omega) (by omega) (Nat.le_of_ble_eq_true rfl) (fun b H locs hI => ?_)
  obtain ⟨o290, v290, hr290, hs290⟩ := mc_zs hF hB hE (q := ((11, 165), "post ")) (List.mem_of_getElem? (i := 0) rfl)
  refine va_ldcS F.1 F.2.1 F.2.2.2.1 hr290 (show decode cL_acts 290 = .ok (.ldc 165, 2) by decide +kernel) ?_
  refine mc_app hg F C hI hs290 (mc_ty ((11, 165), "post ") (List.mem_of_getElem? (i := 0) rfl)) (by simp only [mc_len, mc_k0, mc_k1, mc_k2, mc_k3, mc_k4, mc_k5, mc_k6, mc_k7]; omega) (show decode cL_acts 292 = .ok (.invokevirtual 167, 3) by decide +kernel) (by omega) (by omega) (Nat.le_of_ble_eq_true rfl) (fun H locs hI => ?_)
  refine lv_iload_n F.1 F.2.1 (show decode cL_acts 295 = .ok (.iload_n 3, 1) by decide +kernel) rfl l3 ?_
  refine mc_num hg F C hI (v0 := va) (by omega) (by simp only [mc_len, mc_k0, mc_k1, mc_k2, mc_k3, mc_k4, mc_k5, mc_k6, mc_k7]; omega) (show decode cL_acts 296 = .ok (.invokevirtual 171, 3) by decide +kernel) (by omega) (by omega) (Nat.le_of_ble_eq_true rfl) (fun H locs hI => ?_)
  obtain ⟨o299, v299, hr299, hs299⟩ := mc_zs hF hB hE (q := ((11, 174), " ")) (List.mem_of_getElem? (i := 1) rfl)
  refine va_ldcS F.1 F.2.1 F.2.2.2.1 hr299 (show decode cL_acts 299 = .ok (.ldc 174, 2) by decide +kernel) ?_
  refine mc_app hg F C hI hs299 (mc_ty ((11, 174), " ") (List.mem_of_getElem? (i := 1) rfl)) (by simp only [mc_len, mc_k0, mc_k1, mc_k2, mc_k3, mc_k4, mc_k5, mc_k6, mc_k7]; omega) (show decode cL_acts 301 = .ok (.invokevirtual 167, 3) by decide +kernel) (by omega) (by omega) (Nat.le_of_ble_eq_true rfl) (fun H locs hI => ?_)
  refine lv_iload F.1 F.2.1 (show decode cL_acts 304 = .ok (.iload 4, 2) by decide +kernel) l4 ?_
  refine mc_num hg F C hI (v0 := vb) (by omega) (by simp only [mc_len, mc_k0, mc_k1, mc_k2, mc_k3, mc_k4, mc_k5, mc_k6, mc_k7]; omega) (show decode cL_acts 306 = .ok (.invokevirtual 171, 3) by decide +kernel) (by omega) (by omega) (Nat.le_of_ble_eq_true rfl) (fun H locs hI => ?_)
  obtain ⟨⟨d, cap, f, ml, hP, hD, hcp, hn, hf, hfj⟩, hS, hlc⟩ := hI
  have hE2 : EV s H := C.1.2 s Hb H (fun a h1 h2 => hS.2.1 a h1 h2) hE
  have hA2 : ∀ q : Nat, H.size ≤ q → A q := fun q h => hA q (Nat.le_trans hS.1 h)
  have hB2 : ev_B s0 (fun q => H.size ≤ q) EV := ⟨fun a h1 h2 => hB0.1 a h1 (hA2 a h2), hB0.2⟩
  have C2 : mc_C (fun q => H.size ≤ q) A EV s H := mc_Cof hF hB2 (mc_Eg hm0 hA2) hE2 (fun q h => h) hA2
  refine mc_half hg hF hB2 F l3 l4 l5 b3 b4 b5 (by omega) (by omega) C2 (fun q h => h) hlc (b0 := b) (i0 := i0) (fun o x H1 locs1 hN => ?_)
  obtain ⟨⟨o1, o2⟩, ⟨x1, x2⟩, hev, hkp, hsz, hlc1⟩ := hN
  obtain ⟨t1, t2⟩ := mc_t2k va b3 vb b4 vc b5
  have hS1 := hS.1
  have hGA3 : ∀ q, (Hb.size ≤ q ∧ q ≠ o ∧ q ≠ x) → A q := fun q h => hA q h.1
  have hP1 : va_P D js_cl (js_b cB b d cap (((("" ++ "post ") ++ am_dg va) ++ " ") ++ am_dg vb).length ml f) H1 := hP.kept (fun k q hk => hkp q.1 (hP k q hk).lt)
  have hD1 : va_D (fun q => Hb.size ≤ q ∧ q ≠ o ∧ q ≠ x) (js_b cB b d cap (((("" ++ "post ") ++ am_dg va) ++ " ") ++ am_dg vb).length ml f) := hD.weaken (fun k q hk hh => by
    have hlt := (hP k q hk).lt
    exact ⟨hh, fun w => by omega, fun w => by omega⟩)
  have hB3 : ev_B s0 (fun q => Hb.size ≤ q ∧ q ≠ o ∧ q ≠ x) (mc_E (fun q => Hb.size ≤ q ∧ q ≠ o ∧ q ≠ x) EV (mc_t2 va vb vc) o x) := ⟨fun a h1 h2 => hB0.1 a h1 (hGA3 a h2), fun U H h => hB0.2 U H h.1⟩
  have hE3 : mc_E (fun q => Hb.size ≤ q ∧ q ≠ o ∧ q ≠ x) EV (mc_t2 va vb vc) o x s H1 := ⟨C2.1.2 s H H1 (fun a h1 _ => hkp a h1) hE2, hev _ (fun w => w.2.1 rfl) (fun w => w.2.2 rfl)⟩
  have hm3 : am_EVm (fun q => Hb.size ≤ q ∧ q ≠ o ∧ q ≠ x) (mc_E (fun q => Hb.size ≤ q ∧ q ≠ o ∧ q ≠ x) EV (mc_t2 va vb vc) o x) := mc_Em hm0 hGA3
  have C3 : mc_C (fun q => Hb.size ≤ q ∧ q ≠ o ∧ q ≠ x) A (mc_E (fun q => Hb.size ≤ q ∧ q ≠ o ∧ q ≠ x) EV (mc_t2 va vb vc) o x) s H1 := mc_Cof hF hB3 hm3 hE3 (fun q h => ⟨by omega, by omega, by omega⟩) hGA3
  have hI3 : mc_I D cB (fun q => Hb.size ≤ q ∧ q ≠ o ∧ q ≠ x) A H1 b (((("" ++ "post ") ++ am_dg va) ++ " ") ++ am_dg vb) H1 locs1 := ⟨⟨d, cap, f, ml, hP1, hD1, hcp, hn, hf, hfj⟩, va_S.rf, hlc1⟩
  refine mc_app hg F C3 hI3 (ty := mc_t2 va vb vc) (o := o) (v0 := x) (fun U H h => h.2) ⟨by omega, t2⟩ (by simp only [mc_len, mc_k0, mc_k1, mc_k2, mc_k3, mc_k4, mc_k5, mc_k6, mc_k7]; omega) (show decode cL_acts 424 = .ok (.invokevirtual 167, 3) by decide +kernel) (by omega) (by omega) (Nat.le_of_ble_eq_true rfl) (fun H3 locs3 hI => ?_)
  obtain ⟨oz, vz, -, hsz9⟩ := mc_zs hF hB3 hE3 (q := ((11, 174), " ")) (List.mem_of_getElem? (i := 1) rfl)
  refine mc_str hg F C3 hI (show decode cL_acts 427 = .ok (.invokevirtual 178, 3) by decide +kernel) (by omega) (by omega) (Nat.le_of_ble_eq_true rfl) (fun d9 cap9 f9 ml9 o9 x9 g9 H2 locs2 hP2 hD2 hg2 hS2 hlc2 => ?_)
  have hN := mc_Nof (Hc := Hb) (A := A) (hsz9 s H2 (hm3.2 s H1 H2 (fun a h1 h2 => hS2.2.1 a h1 h2) hE3)) F.2.2.2.2.2.2.2 hP2 hD2 hg2 hS2 hlc2 ⟨by omega, fun q hq => (hkp q (by omega)).trans (hS.2.1 q hq (fun w => absurd (show Hb.size ≤ q from w) (by omega)))⟩ (fun q h => h.1)
  rw [show ((((("" ++ "post ") ++ am_dg va) ++ " ") ++ am_dg vb) ++ mc_t2 va vb vc) = am_text va vb vc from by rw [String.empty_append]; rfl] at hN
  exact W.widen (by omega) (by omega) (k o9 x9 H2 locs2 hN)
end MCM
set_option maxHeartbeats 1000000 in
theorem mc_R {l : Launch} {D : va_G} {cT : Nat → ClassId} {L : Nat} {xs : Nat → Int32} (hgd : ∀ w ∈ am_WS jsW, goodWord w = true) : am_macR l D cT L xs jsW := by
  intro A sx tq EV hO p e R s m args below meth c H locs cells slots mt d i a b c9 lv h ls ba Q F hlv hwh hi hW hS hm hd12 hcR hsR kk
  obtain ⟨⟨o1, o2, o3, o4⟩, -, -, e3, e4, e5, i3, i4, i5⟩ := am_mac_w hm
  obtain ⟨g3, b3⟩ := mc_in i3
  obtain ⟨g4, b4⟩ := mc_in i4
  obtain ⟨g5, b5⟩ := mc_in i5
  obtain ⟨⟨hx, hb, hr, hml, hown, hlk, htb, hnm⟩, ⟨hts, hK0, hX, ⟨hbl, hbA⟩, hA, hEV⟩, ⟨hdec, ho, hmL, hfr, hlo⟩⟩ := F
  have hm0 : am_EVm A EV := hO.2.2.1.1
  obtain ⟨hl0, s0, hF, hB⟩ := ev_bse hO.2.2.2.2
  obtain ⟨D2, cB, hK⟩ := mc_K hF (hB.2 _ _ hEV).1
  rw [o1] at hown
  have Fr : mc_Fr D2 cB p R s m args c ls := ⟨hx, by rw [hb, o2]; rfl, ⟨by rw [hml, o3], by rw [hlv.1, o3]⟩, hown, hts, by omega, by omega, hK⟩
  have l3 : ls[3]? = some (.val (.int (nI a.toNatClampNeg))) := by rw [← g3]; exact hlv.2.2.2 3 _ e3
  have l4 : ls[4]? = some (.val (.int (nI b.toNatClampNeg))) := by rw [← g4]; exact hlv.2.2.2 4 _ e4
  have l5 : ls[5]? = some (.val (.int (nI c9.toNatClampNeg))) := by rw [← g5]; exact hlv.2.2.2 5 _ e5
  have hEH : EV s H := hm0.2 s s.heap H (fun a h1 h2 => hS.2.1 a h1 h2) hEV
  have hS1 := hS.1
  refine mc_main hgd hF hB hm0 Fr l3 l4 l5 b3 b4 b5 hcR hsR hEH (fun q h => hA q (Nat.le_trans hS.1 h)) hS.2.2 (i0 := ba i) (fun o x H1 locs1 hN => ?_)
  obtain ⟨⟨p1, p2⟩, ⟨x1, x2⟩, hev, hkp, hsz, hlc1⟩ := hN
  have hE1 : EV s H1 := hm0.2 s H H1 (fun a h1 _ => hkp a h1) hEH
  refine kk (fun q => A q ∧ q ≠ o ∧ q ≠ x) (mc_sx sx o) (mc_E (fun q => A q ∧ q ≠ o ∧ q ≠ x) EV (am_text a.toNatClampNeg b.toNatClampNeg c9.toNatClampNeg) o x) H1 locs1 (mc_O hO hgd (mc_txk _ b3 _ b4 _ b5) (fun q h => h.1)) (mc_sx_ne (by decide)) (fun q h => h.1) (fun q h => ⟨hA q (by omega), by omega, by omega⟩) ⟨?_, hW.2.1, fun i hi => ?_⟩ ⟨by omega, fun q h1 h2 => (hkp q (by omega)).trans (hS.2.1 q h1 h2), hlc1⟩ (fun U hU hWm => ⟨hm0.1 s U H1 hWm hE1, (hev _ (fun w => w.2.1 rfl) (fun w => w.2.2 rfl)).go hWm.alike (fun _ _ _ => rfl)⟩)
  · rw [am_w_ext (sx := sx) (sx2 := mc_sx sx o) (ba2 := ba) (ba := ba) hwh (fun _ _ => rfl)]
    exact hW.1.kept (fun k q hk => hkp q.1 (hW.1 k q hk).lt)
  · have hlt := hW.lt hi
    exact ⟨hW.2.2 i hi, fun w => by omega, fun w => by omega⟩
