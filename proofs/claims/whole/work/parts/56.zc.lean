/-! EVERY CALL KEEPS THE STATE AND ANSWERS ALIKE, 1: changes, questions (program wip/tools/zg/mk56.py) -/
/-- the class's method, then the reference's: answers alike, the state kept -/
def zCs (mC mR : am_M1) (as : List az_V) (es : List Nat) (s : az_S) (h : Nat) : Prop := az_R 12 mC 0 (az_ini (am_mL mC) (az_r 0 :: as)) [] s (fun o t => az_R 12 mR 0 (az_ini (am_mL mR) (az_r 34 :: as)) [] t (fun o2 t2 => zMt es o o2 (t2 34 6) ∧ zyS t2 (h + 10)))
theorem zc_bridge {s : az_S} {h : Nat} (H : zyS s h) (hh : h + 10 ≤ 10000) {a b c d : Int} (ha : az_in a) (hb : az_in b) (hc : az_in c) (hd : az_in d) : zCs am_m_X9_bridge am_m_X10_bridge [az_i a, az_i b, az_i c, az_i d] [3, 1, 4] s h := by
  obtain ⟨p, cc, hP⟩ := H.2.1
  have hI := H.1.2.1
  refine az_wk (az_deep (zs_X9_bridge (d := 6) (Nat.le_refl 6) H.1.1 hI (by omega) (by omega) hP.2.2.1 hP.1 hP.2.2.2.1 hP.2.1 ha hb hc hd) (by decide)) (fun o t q => ?_)
  obtain ⟨rfl, hcc⟩ := q
  have e35 : t 35 = s 35 := hcc.2.2.2.2.2.2 35 (by decide) (by decide) (by decide) (by decide) (by decide)
  have e34 : t 34 = s 34 := hcc.2.2.2.2.2.2 34 (by decide) (by decide) (by decide) (by decide) (by decide)
  refine az_wk (az_deep (zs_X10_bridge (d := 6) (Nat.le_refl 6) e35 hI (by omega) (by omega) (c := cc) (by rw [e34]; exact hP.2.2.2.2.1) hP.2.1 ha hb hc hd) (by decide)) (fun o2 t2 q => ?_)
  obtain ⟨rfl, hm⟩ := q
  have hk := zkr_bridge (s 35) a b c d
  exact ⟨zMt_ch hk hm.2.1 (fun _ => ⟨0, rfl, rfl⟩) (fun _ => ⟨1, rfl, rfl⟩) (fun _ => ⟨2, rfl, rfl⟩), zyS_ch H hP hcc hm (zIv_bridge hI _ _ _ _) (zJ_bridge hI H.1.2.2 _ _ _ _) hk⟩
theorem zc_troll {s : az_S} {h : Nat} (H : zyS s h) (hh : h + 10 ≤ 10000) : zCs am_m_X9_troll am_m_X10_troll [] [4] s h := by
  obtain ⟨p, cc, hP⟩ := H.2.1
  have hI := H.1.2.1
  refine az_wk (az_deep (zs_X9_troll (d := 6) (Nat.le_refl 6) H.1.1 hI (by omega) (by omega) hP.2.2.1 hP.1 hP.2.2.2.1 hP.2.1 ) (by decide)) (fun o t q => ?_)
  obtain ⟨rfl, hcc⟩ := q
  have e35 : t 35 = s 35 := hcc.2.2.2.2.2.2 35 (by decide) (by decide) (by decide) (by decide) (by decide)
  have e34 : t 34 = s 34 := hcc.2.2.2.2.2.2 34 (by decide) (by decide) (by decide) (by decide) (by decide)
  refine az_wk (az_deep (zs_X10_troll (d := 6) (Nat.le_refl 6) e35 hI (by omega) (by omega) (c := cc) (by rw [e34]; exact hP.2.2.2.2.1) hP.2.1 ) (by decide)) (fun o2 t2 q => ?_)
  obtain ⟨rfl, hm⟩ := q
  have hk := zkr_troll (s 35)
  exact ⟨zMt_ch hk hm.2.1 (fun w => absurd w (zk1_troll _)) (fun w => absurd w (zk2_troll _)) (fun _ => ⟨0, rfl, rfl⟩), zyS_ch H hP hcc hm (zIv_troll hI) (zJ_troll hI H.1.2.2) hk⟩
theorem zc_goat {s : az_S} {h : Nat} (H : zyS s h) (hh : h + 10 ≤ 10000) {a b : Int} (ha : az_in a) (hb : az_in b) : zCs am_m_X9_goat am_m_X10_goat [az_i a, az_i b] [3, 1, 4] s h := by
  obtain ⟨p, cc, hP⟩ := H.2.1
  have hI := H.1.2.1
  refine az_wk (az_deep (zs_X9_goat (d := 6) (Nat.le_refl 6) H.1.1 hI (by omega) (by omega) hP.2.2.1 hP.1 hP.2.2.2.1 hP.2.1 ha hb) (by decide)) (fun o t q => ?_)
  obtain ⟨rfl, hcc⟩ := q
  have e35 : t 35 = s 35 := hcc.2.2.2.2.2.2 35 (by decide) (by decide) (by decide) (by decide) (by decide)
  have e34 : t 34 = s 34 := hcc.2.2.2.2.2.2 34 (by decide) (by decide) (by decide) (by decide) (by decide)
  refine az_wk (az_deep (zs_X10_goat (d := 6) (Nat.le_refl 6) e35 hI (by omega) (by omega) (c := cc) (by rw [e34]; exact hP.2.2.2.2.1) hP.2.1 ha hb) (by decide)) (fun o2 t2 q => ?_)
  obtain ⟨rfl, hm⟩ := q
  have hk := zkr_goat (s 35) a b
  exact ⟨zMt_ch hk hm.2.1 (fun _ => ⟨0, rfl, rfl⟩) (fun _ => ⟨1, rfl, rfl⟩) (fun _ => ⟨2, rfl, rfl⟩), zyS_ch H hP hcc hm (zIv_goat hI _ _) (zJ_goat hI H.1.2.2 _ _) hk⟩
theorem zc_post {s : az_S} {h : Nat} (H : zyS s h) (hh : h + 10 ≤ 10000) {a b : Int} (ha : az_in a) (hb : az_in b) : zCs am_m_X9_post am_m_X10_post [az_i a, az_i b] [3, 4] s h := by
  obtain ⟨p, cc, hP⟩ := H.2.1
  have hI := H.1.2.1
  refine az_wk (az_deep (zs_X9_post (d := 6) (Nat.le_refl 6) H.1.1 hI (by omega) (by omega) hP.2.2.1 hP.1 hP.2.2.2.1 hP.2.1 ha hb) (by decide)) (fun o t q => ?_)
  obtain ⟨rfl, hcc⟩ := q
  have e35 : t 35 = s 35 := hcc.2.2.2.2.2.2 35 (by decide) (by decide) (by decide) (by decide) (by decide)
  have e34 : t 34 = s 34 := hcc.2.2.2.2.2.2 34 (by decide) (by decide) (by decide) (by decide) (by decide)
  refine az_wk (az_deep (zs_X10_post (d := 6) (Nat.le_refl 6) e35 hI (by omega) (by omega) (c := cc) (by rw [e34]; exact hP.2.2.2.2.1) hP.2.1 ha hb) (by decide)) (fun o2 t2 q => ?_)
  obtain ⟨rfl, hm⟩ := q
  have hk := zkr_post (s 35) a b
  exact ⟨zMt_ch hk hm.2.1 (fun _ => ⟨0, rfl, rfl⟩) (fun w => absurd w (zk2_post _ _ _)) (fun _ => ⟨1, rfl, rfl⟩), zyS_ch H hP hcc hm (zIv_post hI _ _) (zJ_post hI H.1.2.2 _ _) hk⟩
theorem zc_leave {s : az_S} {h : Nat} (H : zyS s h) (hh : h + 10 ≤ 10000) {a : Int} (ha : az_in a) : zCs am_m_X9_leave am_m_X10_leave [az_i a] [3, 4] s h := by
  obtain ⟨p, cc, hP⟩ := H.2.1
  have hI := H.1.2.1
  refine az_wk (az_deep (zs_X9_leave (d := 6) (Nat.le_refl 6) H.1.1 hI (by omega) (by omega) hP.2.2.1 hP.1 hP.2.2.2.1 hP.2.1 ha) (by decide)) (fun o t q => ?_)
  obtain ⟨rfl, hcc⟩ := q
  have e35 : t 35 = s 35 := hcc.2.2.2.2.2.2 35 (by decide) (by decide) (by decide) (by decide) (by decide)
  have e34 : t 34 = s 34 := hcc.2.2.2.2.2.2 34 (by decide) (by decide) (by decide) (by decide) (by decide)
  refine az_wk (az_deep (zs_X10_leave (d := 6) (Nat.le_refl 6) e35 hI (by omega) (by omega) (c := cc) (by rw [e34]; exact hP.2.2.2.2.1) hP.2.1 ha) (by decide)) (fun o2 t2 q => ?_)
  obtain ⟨rfl, hm⟩ := q
  have hk := zkr_leave (s 35) a
  exact ⟨zMt_ch hk hm.2.1 (fun _ => ⟨0, rfl, rfl⟩) (fun w => absurd w (zk2_leave _ _)) (fun _ => ⟨1, rfl, rfl⟩), zyS_ch H hP hcc hm (zIv_leave hI _) (zJ_leave hI H.1.2.2 _) hk⟩
theorem zc_riddle {s : az_S} {h : Nat} (H : zyS s h) (hh : h + 10 ≤ 10000) {a b c : Int} (ha : az_in a) (hb : az_in b) (hc : az_in c) : zCs am_m_X9_riddle am_m_X10_riddle [az_i a, az_i b, az_i c] [3, 1, 4] s h := by
  obtain ⟨p, cc, hP⟩ := H.2.1
  have hI := H.1.2.1
  refine az_wk (az_deep (zs_X9_riddle (d := 6) (Nat.le_refl 6) H.1.1 hI (by omega) (by omega) hP.2.2.1 hP.1 hP.2.2.2.1 hP.2.1 ha hb hc) (by decide)) (fun o t q => ?_)
  obtain ⟨rfl, hcc⟩ := q
  have e35 : t 35 = s 35 := hcc.2.2.2.2.2.2 35 (by decide) (by decide) (by decide) (by decide) (by decide)
  have e34 : t 34 = s 34 := hcc.2.2.2.2.2.2 34 (by decide) (by decide) (by decide) (by decide) (by decide)
  refine az_wk (az_deep (zs_X10_riddle (d := 6) (Nat.le_refl 6) e35 hI (by omega) (by omega) (c := cc) (by rw [e34]; exact hP.2.2.2.2.1) hP.2.1 ha hb hc) (by decide)) (fun o2 t2 q => ?_)
  obtain ⟨rfl, hm⟩ := q
  have hk := zkr_riddle (s 35) a b c
  exact ⟨zMt_ch hk hm.2.1 (fun _ => ⟨0, rfl, rfl⟩) (fun _ => ⟨1, rfl, rfl⟩) (fun _ => ⟨2, rfl, rfl⟩), zyS_ch H hP hcc hm (zIv_riddle hI _ _ _) (zJ_riddle hI H.1.2.2 _ _ _) hk⟩
theorem zc_fog {s : az_S} {h : Nat} (H : zyS s h) (hh : h + 10 ≤ 10000) {a b : Int} (ha : az_in a) (hb : az_in b) : zCs am_m_X9_fog am_m_X10_fog [az_i a, az_i b] [3, 1, 4] s h := by
  obtain ⟨p, cc, hP⟩ := H.2.1
  have hI := H.1.2.1
  refine az_wk (az_deep (zs_X9_fog (d := 6) (Nat.le_refl 6) H.1.1 hI (by omega) (by omega) hP.2.2.1 hP.1 hP.2.2.2.1 hP.2.1 ha hb) (by decide)) (fun o t q => ?_)
  obtain ⟨rfl, hcc⟩ := q
  have e35 : t 35 = s 35 := hcc.2.2.2.2.2.2 35 (by decide) (by decide) (by decide) (by decide) (by decide)
  have e34 : t 34 = s 34 := hcc.2.2.2.2.2.2 34 (by decide) (by decide) (by decide) (by decide) (by decide)
  refine az_wk (az_deep (zs_X10_fog (d := 6) (Nat.le_refl 6) e35 hI (by omega) (by omega) (c := cc) (by rw [e34]; exact hP.2.2.2.2.1) hP.2.1 ha hb) (by decide)) (fun o2 t2 q => ?_)
  obtain ⟨rfl, hm⟩ := q
  have hk := zkr_fog (s 35) a b
  exact ⟨zMt_ch hk hm.2.1 (fun _ => ⟨0, rfl, rfl⟩) (fun _ => ⟨1, rfl, rfl⟩) (fun _ => ⟨2, rfl, rfl⟩), zyS_ch H hP hcc hm (zIv_fog hI _ _) (zJ_fog hI H.1.2.2 _ _) hk⟩
theorem zc_price {s : az_S} {h : Nat} (H : zyS s h) (hh : h + 10 ≤ 10000) {a b : Int} (ha : az_in a) (hb : az_in b) : zCs am_m_X9_price am_m_X10_price [az_i a, az_i b] [3, 1, 4] s h := by
  obtain ⟨p, cc, hP⟩ := H.2.1
  have hI := H.1.2.1
  refine az_wk (az_deep (zs_X9_price (d := 6) (Nat.le_refl 6) H.1.1 hI (by omega) (by omega) hP.2.2.1 hP.1 hP.2.2.2.1 hP.2.1 ha hb) (by decide)) (fun o t q => ?_)
  obtain ⟨rfl, hcc⟩ := q
  have e35 : t 35 = s 35 := hcc.2.2.2.2.2.2 35 (by decide) (by decide) (by decide) (by decide) (by decide)
  have e34 : t 34 = s 34 := hcc.2.2.2.2.2.2 34 (by decide) (by decide) (by decide) (by decide) (by decide)
  refine az_wk (az_deep (zs_X10_price (d := 6) (Nat.le_refl 6) e35 hI (by omega) (by omega) (c := cc) (by rw [e34]; exact hP.2.2.2.2.1) hP.2.1 ha hb) (by decide)) (fun o2 t2 q => ?_)
  obtain ⟨rfl, hm⟩ := q
  have hk := zkr_price (s 35) a b
  exact ⟨zMt_ch hk hm.2.1 (fun _ => ⟨0, rfl, rfl⟩) (fun _ => ⟨1, rfl, rfl⟩) (fun _ => ⟨2, rfl, rfl⟩), zyS_ch H hP hcc hm (zIv_price hI _ _) (zJ_price hI H.1.2.2 _ _) hk⟩
theorem zc_cross {s : az_S} {h : Nat} (H : zyS s h) (hh : h + 10 ≤ 10000) {a b : Int} (ha : az_in a) (hb : az_in b) : zCs am_m_X9_cross am_m_X10_cross [az_i a, az_i b] [3, 4] s h := by
  obtain ⟨p, cc, hP⟩ := H.2.1
  have hI := H.1.2.1
  refine az_wk (az_deep (zs_X9_cross (d := 6) (Nat.le_refl 6) H.1.1 hI (by omega) (by omega) hP.2.2.1 hP.1 hP.2.2.2.1 hP.2.1 ha hb) (by decide)) (fun o t q => ?_)
  obtain ⟨rfl, hcc⟩ := q
  have e35 : t 35 = s 35 := hcc.2.2.2.2.2.2 35 (by decide) (by decide) (by decide) (by decide) (by decide)
  have e34 : t 34 = s 34 := hcc.2.2.2.2.2.2 34 (by decide) (by decide) (by decide) (by decide) (by decide)
  refine az_wk (az_deep (zs_X10_cross (d := 6) (Nat.le_refl 6) e35 hI (by omega) (by omega) (c := cc) (by rw [e34]; exact hP.2.2.2.2.1) hP.2.1 ha hb) (by decide)) (fun o2 t2 q => ?_)
  obtain ⟨rfl, hm⟩ := q
  have hk := zkr_cross (s 35) a b
  exact ⟨zMt_ch hk hm.2.1 (fun _ => ⟨0, rfl, rfl⟩) (fun w => absurd w (zk2_cross _ _ _)) (fun _ => ⟨1, rfl, rfl⟩), zyS_ch H hP hcc hm (zIv_cross hI (by omega) _ _) (zJ_cross hI H.1.2.2 _ _) hk⟩
theorem zc_dispute {s : az_S} {h : Nat} (H : zyS s h) (hh : h + 10 ≤ 10000) {a b : Int} (ha : az_in a) (hb : az_in b) : zCs am_m_X9_dispute am_m_X10_dispute [az_i a, az_i b] [3, 4] s h := by
  obtain ⟨p, cc, hP⟩ := H.2.1
  have hI := H.1.2.1
  refine az_wk (az_deep (zs_X9_dispute (d := 6) (Nat.le_refl 6) H.1.1 hI (by omega) (by omega) hP.2.2.1 hP.1 hP.2.2.2.1 hP.2.1 ha hb) (by decide)) (fun o t q => ?_)
  obtain ⟨rfl, hcc⟩ := q
  have e35 : t 35 = s 35 := hcc.2.2.2.2.2.2 35 (by decide) (by decide) (by decide) (by decide) (by decide)
  have e34 : t 34 = s 34 := hcc.2.2.2.2.2.2 34 (by decide) (by decide) (by decide) (by decide) (by decide)
  refine az_wk (az_deep (zs_X10_dispute (d := 6) (Nat.le_refl 6) e35 hI (by omega) (by omega) (c := cc) (by rw [e34]; exact hP.2.2.2.2.1) hP.2.1 ha hb) (by decide)) (fun o2 t2 q => ?_)
  obtain ⟨rfl, hm⟩ := q
  have hk := zkr_dispute (s 35) a b
  exact ⟨zMt_ch hk hm.2.1 (fun _ => ⟨0, rfl, rfl⟩) (fun w => absurd w (zk2_dispute _ _ _)) (fun _ => ⟨1, rfl, rfl⟩), zyS_ch H hP hcc hm (zIv_dispute hI _ _) (zJ_dispute hI H.1.2.2 _ _) hk⟩
theorem zc_settle_1 {s : az_S} {h : Nat} (H : zyS s h) (hh : h + 10 ≤ 10000) {a : Int} (ha : az_in a) : zCs am_m_X9_settle am_m_X10_settle [az_i a, az_i 1] [3, 4] s h := by
  obtain ⟨p, cc, hP⟩ := H.2.1
  have hI := H.1.2.1
  refine az_wk (az_deep (zs_X9_settle_1 (d := 6) (Nat.le_refl 6) H.1.1 hI (by omega) (by omega) hP.2.2.1 hP.1 hP.2.2.2.1 hP.2.1 ha) (by decide)) (fun o t q => ?_)
  obtain ⟨rfl, hcc⟩ := q
  have e35 : t 35 = s 35 := hcc.2.2.2.2.2.2 35 (by decide) (by decide) (by decide) (by decide) (by decide)
  have e34 : t 34 = s 34 := hcc.2.2.2.2.2.2 34 (by decide) (by decide) (by decide) (by decide) (by decide)
  refine az_wk (az_deep (zs_X10_settle_1 (d := 6) (Nat.le_refl 6) e35 hI (by omega) (by omega) (c := cc) (by rw [e34]; exact hP.2.2.2.2.1) hP.2.1 ha) (by decide)) (fun o2 t2 q => ?_)
  obtain ⟨rfl, hm⟩ := q
  have hk := zkr_settle (s 35) a 1
  exact ⟨zMt_ch hk hm.2.1 (fun _ => ⟨0, rfl, rfl⟩) (fun w => absurd w (zk2_settle _ _ _)) (fun _ => ⟨1, rfl, rfl⟩), zyS_ch H hP hcc hm (zIv_settle hI (by omega) _ _) (zJ_settle hI H.1.2.2 _ _) hk⟩
theorem zc_strike_1 {s : az_S} {h : Nat} (H : zyS s h) (hh : h + 10 ≤ 10000) {a : Int} (ha : az_in a) : zCs am_m_X9_strike am_m_X10_strike [az_i a, az_i 1] [3, 4] s h := by
  obtain ⟨p, cc, hP⟩ := H.2.1
  have hI := H.1.2.1
  refine az_wk (az_deep (zs_X9_strike_1 (d := 6) (Nat.le_refl 6) H.1.1 hI (by omega) (by omega) hP.2.2.1 hP.1 hP.2.2.2.1 hP.2.1 ha) (by decide)) (fun o t q => ?_)
  obtain ⟨rfl, hcc⟩ := q
  have e35 : t 35 = s 35 := hcc.2.2.2.2.2.2 35 (by decide) (by decide) (by decide) (by decide) (by decide)
  have e34 : t 34 = s 34 := hcc.2.2.2.2.2.2 34 (by decide) (by decide) (by decide) (by decide) (by decide)
  refine az_wk (az_deep (zs_X10_strike_1 (d := 6) (Nat.le_refl 6) e35 hI (by omega) (by omega) (c := cc) (by rw [e34]; exact hP.2.2.2.2.1) hP.2.1 ha) (by decide)) (fun o2 t2 q => ?_)
  obtain ⟨rfl, hm⟩ := q
  have hk := zkr_strike (s 35) a 1
  exact ⟨zMt_ch hk hm.2.1 (fun _ => ⟨0, rfl, rfl⟩) (fun w => absurd w (zk2_strike _ _ _)) (fun _ => ⟨1, rfl, rfl⟩), zyS_ch H hP hcc hm (zIv_strike hI _ 1 (by decide)) (zJ_strike hI H.1.2.2 _ _) hk⟩
theorem zc_settle_0 {s : az_S} {h : Nat} (H : zyS s h) (hh : h + 10 ≤ 10000) {a : Int} (ha : az_in a) : zCs am_m_X9_settle am_m_X10_settle [az_i a, az_i 0] [3, 4] s h := by
  obtain ⟨p, cc, hP⟩ := H.2.1
  have hI := H.1.2.1
  refine az_wk (az_deep (zs_X9_settle_0 (d := 6) (Nat.le_refl 6) H.1.1 hI (by omega) (by omega) hP.2.2.1 hP.1 hP.2.2.2.1 hP.2.1 ha) (by decide)) (fun o t q => ?_)
  obtain ⟨rfl, hcc⟩ := q
  have e35 : t 35 = s 35 := hcc.2.2.2.2.2.2 35 (by decide) (by decide) (by decide) (by decide) (by decide)
  have e34 : t 34 = s 34 := hcc.2.2.2.2.2.2 34 (by decide) (by decide) (by decide) (by decide) (by decide)
  refine az_wk (az_deep (zs_X10_settle_0 (d := 6) (Nat.le_refl 6) e35 hI (by omega) (by omega) (c := cc) (by rw [e34]; exact hP.2.2.2.2.1) hP.2.1 ha) (by decide)) (fun o2 t2 q => ?_)
  obtain ⟨rfl, hm⟩ := q
  have hk := zkr_settle (s 35) a 0
  exact ⟨zMt_ch hk hm.2.1 (fun _ => ⟨0, rfl, rfl⟩) (fun w => absurd w (zk2_settle _ _ _)) (fun _ => ⟨1, rfl, rfl⟩), zyS_ch H hP hcc hm (zIv_settle hI (by omega) _ _) (zJ_settle hI H.1.2.2 _ _) hk⟩
theorem zc_strike_0 {s : az_S} {h : Nat} (H : zyS s h) (hh : h + 10 ≤ 10000) {a : Int} (ha : az_in a) : zCs am_m_X9_strike am_m_X10_strike [az_i a, az_i 0] [3, 4] s h := by
  obtain ⟨p, cc, hP⟩ := H.2.1
  have hI := H.1.2.1
  refine az_wk (az_deep (zs_X9_strike_0 (d := 6) (Nat.le_refl 6) H.1.1 hI (by omega) (by omega) hP.2.2.1 hP.1 hP.2.2.2.1 hP.2.1 ha) (by decide)) (fun o t q => ?_)
  obtain ⟨rfl, hcc⟩ := q
  have e35 : t 35 = s 35 := hcc.2.2.2.2.2.2 35 (by decide) (by decide) (by decide) (by decide) (by decide)
  have e34 : t 34 = s 34 := hcc.2.2.2.2.2.2 34 (by decide) (by decide) (by decide) (by decide) (by decide)
  refine az_wk (az_deep (zs_X10_strike_0 (d := 6) (Nat.le_refl 6) e35 hI (by omega) (by omega) (c := cc) (by rw [e34]; exact hP.2.2.2.2.1) hP.2.1 ha) (by decide)) (fun o2 t2 q => ?_)
  obtain ⟨rfl, hm⟩ := q
  have hk := zkr_strike (s 35) a 0
  exact ⟨zMt_ch hk hm.2.1 (fun _ => ⟨0, rfl, rfl⟩) (fun w => absurd w (zk2_strike _ _ _)) (fun _ => ⟨1, rfl, rfl⟩), zyS_ch H hP hcc hm (zIv_strike hI _ 0 (by decide)) (zJ_strike hI H.1.2.2 _ _) hk⟩
theorem zc_pass {s : az_S} {h : Nat} (H : zyS s h) (hh : h + 10 ≤ 10000) {a : Int} (ha : az_in a) : zCs am_m_X9_pass am_m_X10_pass [az_i a] [1] s h := by
  obtain ⟨p, cc, hP⟩ := H.2.1
  have hI := H.1.2.1
  refine az_wk (az_deep (zs_X9_pass (d := 6) (Nat.le_refl 6) H.1.1 hI (by omega) (by omega) hP.2.2.1 hP.1 hP.2.2.2.1 hP.2.1 ha) (by decide)) (fun o t q => ?_)
  obtain ⟨rfl, hcc⟩ := q
  have e35 : t 35 = s 35 := hcc.2.2.2.2.2.2 35 (by decide) (by decide) (by decide) (by decide) (by decide)
  have e34 : t 34 = s 34 := hcc.2.2.2.2.2.2 34 (by decide) (by decide) (by decide) (by decide) (by decide)
  refine az_wk (az_deep (zs_X10_pass (d := 6) (Nat.le_refl 6) e35 hI (by omega) (by omega) (c := cc) (by rw [e34]; exact hP.2.2.2.2.1) hP.2.1 ha) (by decide)) (fun o2 t2 q => ?_)
  obtain ⟨rfl, hm⟩ := q
  have hk := zkr_pass (s 35) a
  exact ⟨zMt_ch hk hm.2.1 (fun w => absurd w (zk1_pass _ _)) (fun _ => ⟨0, rfl, rfl⟩) (fun w => absurd w (zk3_pass _ _)), zyS_ch H hP hcc hm (zIv_pass hI _) (zJ_pass hI H.1.2.2 _) hk⟩
theorem zc_bridgeOf {s : az_S} {h : Nat} (H : zyS s h) (hh : h + 10 ≤ 10000) {a b : Int} (ha : az_in a) (hb : az_in b) : zCs am_m_X9_bridgeOf am_m_X10_bridgeOf [az_i a, az_i b] [3, 1] s h := by
  have hI := H.1.2.1
  refine az_wk (az_deep (zs_X9_bridgeOf (d := 7) (by decide) H.1.1 hI (by omega) ha hb) (by decide)) (fun o t q => ?_)
  obtain ⟨rfl, hq⟩ := q
  refine az_wk (az_deep (zs_X10_bridgeOf (d := 7) (by decide) (hq 35 (by decide) (by decide) (by decide) (by decide) (by decide)) hI (by omega) ha hb ) (by decide)) (fun o2 t2 q => ?_)
  obtain ⟨rfl, hm⟩ := q
  refine ⟨?_, zyS_q H hq hm⟩
  rw [hm.1]
  exact zMt_q (by unfold zq_bridgeOf; repeat (first | exact (show (0 : Nat) ≤ 2 from by decide) | exact (show (1 : Nat) ≤ 2 from by decide) | exact (show (2 : Nat) ≤ 2 from by decide) | split))
theorem zc_trollOf {s : az_S} {h : Nat} (H : zyS s h) (hh : h + 10 ≤ 10000) {a b : Int} (ha : az_in a) (hb : az_in b) : zCs am_m_X9_trollOf am_m_X10_trollOf [az_i a, az_i b] [3, 1] s h := by
  have hI := H.1.2.1
  refine az_wk (az_deep (zs_X9_trollOf (d := 7) (by decide) H.1.1 hI (by omega) ha hb) (by decide)) (fun o t q => ?_)
  obtain ⟨rfl, hq⟩ := q
  refine az_wk (az_deep (zs_X10_trollOf (d := 7) (by decide) (hq 35 (by decide) (by decide) (by decide) (by decide) (by decide)) hI (by omega) ha hb ) (by decide)) (fun o2 t2 q => ?_)
  obtain ⟨rfl, hm⟩ := q
  refine ⟨?_, zyS_q H hq hm⟩
  rw [hm.1]
  exact zMt_q (by unfold zq_trollOf; repeat (first | exact (show (0 : Nat) ≤ 2 from by decide) | exact (show (1 : Nat) ≤ 2 from by decide) | exact (show (2 : Nat) ≤ 2 from by decide) | split))
theorem zc_goatOf {s : az_S} {h : Nat} (H : zyS s h) (hh : h + 10 ≤ 10000) {a b : Int} (ha : az_in a) (hb : az_in b) : zCs am_m_X9_goatOf am_m_X10_goatOf [az_i a, az_i b] [3, 1] s h := by
  have hI := H.1.2.1
  refine az_wk (az_deep (zs_X9_goatOf (d := 7) (by decide) H.1.1 hI (by omega) ha hb) (by decide)) (fun o t q => ?_)
  obtain ⟨rfl, hq⟩ := q
  refine az_wk (az_deep (zs_X10_goatOf (d := 7) (by decide) (hq 35 (by decide) (by decide) (by decide) (by decide) (by decide)) hI (by omega) ha hb ) (by decide)) (fun o2 t2 q => ?_)
  obtain ⟨rfl, hm⟩ := q
  refine ⟨?_, zyS_q H hq hm⟩
  rw [hm.1]
  exact zMt_q (by unfold zq_goatOf; repeat (first | exact (show (0 : Nat) ≤ 2 from by decide) | exact (show (1 : Nat) ≤ 2 from by decide) | exact (show (2 : Nat) ≤ 2 from by decide) | split))
theorem zc_due {s : az_S} {h : Nat} (H : zyS s h) (hh : h + 10 ≤ 10000) {a : Int} (ha : az_in a) : zCs am_m_X9_due am_m_X10_due [az_i a] [3] s h := by
  have hI := H.1.2.1
  refine az_wk (az_deep (zs_X9_due (d := 7) (by decide) H.1.1 hI (by omega) ha) (by decide)) (fun o t q => ?_)
  obtain ⟨rfl, hq⟩ := q
  refine az_wk (az_deep (zs_X10_due (d := 7) (by decide) (hq 35 (by decide) (by decide) (by decide) (by decide) (by decide)) hI (by omega) ha ) (by decide)) (fun o2 t2 q => ?_)
  obtain ⟨rfl, hm⟩ := q
  refine ⟨?_, zyS_q H hq hm⟩
  rw [hm.1]
  exact zMt_q (by unfold zq_due; repeat (first | exact (show (0 : Nat) ≤ 1 from by decide) | exact (show (1 : Nat) ≤ 1 from by decide) | split))
theorem zc_takes {s : az_S} {h : Nat} (H : zyS s h) (hh : h + 10 ≤ 10000) {a : Int} (ha : az_in a) : zCs am_m_X9_takes am_m_X10_takes [az_i a] [3] s h := by
  have hI := H.1.2.1
  refine az_wk (az_deep (zs_X9_takes (d := 7) (by decide) H.1.1 hI (by omega) ha) (by decide)) (fun o t q => ?_)
  obtain ⟨rfl, hq⟩ := q
  refine az_wk (az_deep (zs_X10_takes (d := 7) (by decide) (hq 35 (by decide) (by decide) (by decide) (by decide) (by decide)) hI (by omega) ha ) (by decide)) (fun o2 t2 q => ?_)
  obtain ⟨rfl, hm⟩ := q
  refine ⟨?_, zyS_q H hq hm⟩
  rw [hm.1]
  exact zMt_q (by unfold zq_takes; repeat (first | exact (show (0 : Nat) ≤ 1 from by decide) | exact (show (1 : Nat) ≤ 1 from by decide) | split))
theorem zc_cheapest {s : az_S} {h : Nat} (H : zyS s h) (hh : h + 10 ≤ 10000) {a b : Int} (ha : az_in a) (hb : az_in b) : zCs am_m_X9_cheapest am_m_X10_cheapest [az_i a, az_i b] [3, 5] s h := by
  have hI := H.1.2.1
  have h0 := fun m f hf => zgd_ex H.1.1 hI (by omega) m f hf
  refine az_wk (az_deep (zs_X9_cheapest (d := 7) (by decide) H.1.1 hI (by omega) ha hb) (by decide)) (fun o t q => ?_)
  obtain ⟨rfl, hq⟩ := q
  refine az_wk (az_deep (zs_X10_cheapest (d := 7) (by decide) (hq 35 (by decide) (by decide) (by decide) (by decide) (by decide)) hI (by omega) ha hb h0) (by decide)) (fun o2 t2 q => ?_)
  obtain ⟨rfl, hm⟩ := q
  refine ⟨?_, zyS_q H hq hm⟩
  rw [hm.1]
  exact zMt_q (by unfold zq_way; repeat (first | exact (show (0 : Nat) ≤ 2 from by decide) | exact (show (1 : Nat) ≤ 2 from by decide) | exact (show (2 : Nat) ≤ 2 from by decide) | split))
theorem zc_cheapestAgain {s : az_S} {h : Nat} (H : zyS s h) (hh : h + 10 ≤ 10000) {a b : Int} (ha : az_in a) (hb : az_in b) : zCs am_m_X9_cheapestAgain am_m_X10_cheapestAgain [az_i a, az_i b] [3, 5] s h := by
  have hI := H.1.2.1
  have h0 := fun m f hf => zgd_ex H.1.1 hI (by omega) m f hf
  refine az_wk (az_deep (zs_X9_cheapestAgain (d := 7) (by decide) H.1.1 hI (by omega) ha hb) (by decide)) (fun o t q => ?_)
  obtain ⟨rfl, hq⟩ := q
  refine az_wk (az_deep (zs_X10_cheapestAgain (d := 7) (by decide) (hq 35 (by decide) (by decide) (by decide) (by decide) (by decide)) hI (by omega) ha hb h0) (by decide)) (fun o2 t2 q => ?_)
  obtain ⟨rfl, hm⟩ := q
  refine ⟨?_, zyS_q H hq hm⟩
  rw [hm.1]
  exact zMt_q (by unfold zq_way; repeat (first | exact (show (0 : Nat) ≤ 2 from by decide) | exact (show (1 : Nat) ≤ 2 from by decide) | exact (show (2 : Nat) ≤ 2 from by decide) | split))
theorem zc_fastest {s : az_S} {h : Nat} (H : zyS s h) (hh : h + 10 ≤ 10000) {a b : Int} (ha : az_in a) (hb : az_in b) : zCs am_m_X9_fastest am_m_X10_fastest [az_i a, az_i b] [3, 5] s h := by
  have hI := H.1.2.1
  have h0 := fun m f hf => zgd_ex H.1.1 hI (by omega) m f hf
  refine az_wk (az_deep (zs_X9_fastest (d := 7) (by decide) H.1.1 hI (by omega) ha hb) (by decide)) (fun o t q => ?_)
  obtain ⟨rfl, hq⟩ := q
  refine az_wk (az_deep (zs_X10_fastest (d := 7) (by decide) (hq 35 (by decide) (by decide) (by decide) (by decide) (by decide)) hI (by omega) ha hb h0) (by decide)) (fun o2 t2 q => ?_)
  obtain ⟨rfl, hm⟩ := q
  refine ⟨?_, zyS_q H hq hm⟩
  rw [hm.1]
  exact zMt_q (by unfold zq_way; repeat (first | exact (show (0 : Nat) ≤ 2 from by decide) | exact (show (1 : Nat) ≤ 2 from by decide) | exact (show (2 : Nat) ≤ 2 from by decide) | split))
theorem zc_fastestAgain {s : az_S} {h : Nat} (H : zyS s h) (hh : h + 10 ≤ 10000) {a b : Int} (ha : az_in a) (hb : az_in b) : zCs am_m_X9_fastestAgain am_m_X10_fastestAgain [az_i a, az_i b] [3, 5] s h := by
  have hI := H.1.2.1
  have h0 := fun m f hf => zgd_ex H.1.1 hI (by omega) m f hf
  refine az_wk (az_deep (zs_X9_fastestAgain (d := 7) (by decide) H.1.1 hI (by omega) ha hb) (by decide)) (fun o t q => ?_)
  obtain ⟨rfl, hq⟩ := q
  refine az_wk (az_deep (zs_X10_fastestAgain (d := 7) (by decide) (hq 35 (by decide) (by decide) (by decide) (by decide) (by decide)) hI (by omega) ha hb h0) (by decide)) (fun o2 t2 q => ?_)
  obtain ⟨rfl, hm⟩ := q
  refine ⟨?_, zyS_q H hq hm⟩
  rw [hm.1]
  exact zMt_q (by unfold zq_way; repeat (first | exact (show (0 : Nat) ≤ 2 from by decide) | exact (show (1 : Nat) ≤ 2 from by decide) | exact (show (2 : Nat) ≤ 2 from by decide) | split))
theorem zc_hangs {s : az_S} {h : Nat} (H : zyS s h) (hh : h + 10 ≤ 10000) {a b : Int} (ha : az_in a) (hb : az_in b) : zCs am_m_X9_hangs am_m_X10_hangs [az_i a, az_i b] [3, 5] s h := by
  have hI := H.1.2.1
  have h0 := fun m f hf => zgd_ex H.1.1 hI (by omega) m f hf
  refine az_wk (az_deep (zs_X9_hangs (d := 7) (by decide) H.1.1 hI (by omega) ha hb) (by decide)) (fun o t q => ?_)
  obtain ⟨rfl, hq⟩ := q
  refine az_wk (az_deep (zs_X10_hangs (d := 7) (by decide) (hq 35 (by decide) (by decide) (by decide) (by decide) (by decide)) hI (by omega) ha hb h0) (by decide)) (fun o2 t2 q => ?_)
  obtain ⟨rfl, hm⟩ := q
  refine ⟨?_, zyS_q H hq hm⟩
  rw [hm.1]
  exact zMt_q (by unfold zq_hangs; repeat (first | exact (show (0 : Nat) ≤ 2 from by decide) | exact (show (1 : Nat) ≤ 2 from by decide) | exact (show (2 : Nat) ≤ 2 from by decide) | split))
theorem zc_richest {s : az_S} {h : Nat} (H : zyS s h) (hh : h + 10 ≤ 10000) {a : Int} (ha : az_in a) : zCs am_m_X9_richest am_m_X10_richest [az_i a] [5] s h := by
  have hI := H.1.2.1
  refine az_wk (az_deep (zs_X9_richest (d := 7) (by decide) H.1.1 hI (by omega) ha) (by decide)) (fun o t q => ?_)
  obtain ⟨rfl, hq⟩ := q
  refine az_wk (az_deep (zs_X10_richest (d := 7) (by decide) (hq 35 (by decide) (by decide) (by decide) (by decide) (by decide)) hI (by omega) ha ) (by decide)) (fun o2 t2 q => ?_)
  obtain ⟨rfl, hm⟩ := q
  refine ⟨?_, zyS_q H hq hm⟩
  rw [hm.1]
  exact zMt_q (by unfold zq_richest; repeat (first | exact (show (0 : Nat) ≤ 1 from by decide) | exact (show (1 : Nat) ≤ 1 from by decide) | split))
theorem zc_tired {s : az_S} {h : Nat} (H : zyS s h) (hh : h + 10 ≤ 10000) {a : Int} (ha : az_in a) : zCs am_m_X9_tired am_m_X10_tired [az_i a] [5] s h := by
  have hI := H.1.2.1
  refine az_wk (az_deep (zs_X9_tired (d := 7) (by decide) H.1.1 hI (by omega) ha) (by decide)) (fun o t q => ?_)
  obtain ⟨rfl, hq⟩ := q
  refine az_wk (az_deep (zs_X10_tired (d := 7) (by decide) (hq 35 (by decide) (by decide) (by decide) (by decide) (by decide)) hI (by omega) ha ) (by decide)) (fun o2 t2 q => ?_)
  obtain ⟨rfl, hm⟩ := q
  refine ⟨?_, zyS_q H hq hm⟩
  rw [hm.1]
  exact zMt_q (by unfold zq_tired; repeat (first | exact (show (0 : Nat) ≤ 1 from by decide) | exact (show (1 : Nat) ≤ 1 from by decide) | split))
theorem zc_next {s : az_S} {h : Nat} (H : zyS s h) (hh : h + 10 ≤ 10000) : zCs am_m_X9_next am_m_X10_next [] [5] s h := by
  have hI := H.1.2.1
  refine az_wk (az_deep (zs_X9_next (d := 7) (by decide) H.1.1 hI (by omega) ) (by decide)) (fun o t q => ?_)
  obtain ⟨rfl, hq⟩ := q
  refine az_wk (az_deep (zs_X10_next (d := 7) (by decide) (hq 35 (by decide) (by decide) (by decide) (by decide) (by decide)) hI (by omega)  ) (by decide)) (fun o2 t2 q => ?_)
  obtain ⟨rfl, hm⟩ := q
  refine ⟨?_, zyS_q H hq hm⟩
  rw [hm.1]
  exact zMt_q (by unfold zq_next; repeat (first | exact (show (0 : Nat) ≤ 1 from by decide) | exact (show (1 : Nat) ≤ 1 from by decide) | split))
/-- an answer that is never thrown -/
theorem zMt_0 {o o2 : az_O} {v : Int} (h1 : o = .inl (some (az_i v))) (h2 : o2 = .inl (some (az_i v))) : zMt [] o o2 0 := Or.inl ⟨v, h1, h2, rfl⟩
theorem zFm_0 {t : az_S} : zFm t (am_up t 34 6 0) 0 := ⟨rfl, fun j hj => by simp [am_up, hj], fun i h1 _ => by funext b; simp [am_up, h1]⟩
theorem zc_counted {s : az_S} {h : Nat} (H : zyS s h) (hh : h + 10 ≤ 10000) : zCs am_m_X9_counted am_m_X10_counted [] [] s h := by
  have hI := H.1.2.1
  refine az_wk (az_deep (zs_X9_counted (d := 7) (by decide) H.1.1 hI (by omega)) (by decide)) (fun o t q => ?_)
  obtain ⟨rfl, hq⟩ := q
  refine az_wk (az_deep (zs_X10_counted (d := 7) (by decide) (hq 35 (by decide) (by decide) (by decide) (by decide) (by decide)) hI (by omega)) (by decide)) (fun o2 t2 q => ?_)
  obtain ⟨rfl, rfl⟩ := q
  exact ⟨Or.inl ⟨_, rfl, by rw [zcp_zcc hI], rfl⟩, zyS_q H hq zFm_0⟩
theorem zc_countedAgain {s : az_S} {h : Nat} (H : zyS s h) (hh : h + 10 ≤ 10000) : zCs am_m_X9_countedAgain am_m_X10_countedAgain [] [] s h := by
  have hI := H.1.2.1
  refine az_wk (az_deep (zs_X9_countedAgain (d := 7) (by decide) H.1.1 hI (by omega)) (by decide)) (fun o t q => ?_)
  obtain ⟨rfl, hq⟩ := q
  refine az_wk (az_deep (zs_X10_countedAgain (d := 7) (by decide) (hq 35 (by decide) (by decide) (by decide) (by decide) (by decide)) hI (by omega)) (by decide)) (fun o2 t2 q => ?_)
  obtain ⟨rfl, rfl⟩ := q
  exact ⟨Or.inl ⟨_, rfl, rfl, rfl⟩, zyS_q H hq zFm_0⟩
theorem zc_isGeneral {s : az_S} {h : Nat} (H : zyS s h) (hh : h + 10 ≤ 10000) : zCs am_m_X9_isGeneral am_m_X10_isGeneral [] [] s h := by
  have hI := H.1.2.1
  refine az_wk (az_deep (zs_X9_isGeneral (d := 7) (by decide) H.1.1 hI (by omega)) (by decide)) (fun o t q => ?_)
  obtain ⟨rfl, hq⟩ := q
  refine az_wk (az_deep (zs_X10_isGeneral (d := 7) (by decide) (hq 35 (by decide) (by decide) (by decide) (by decide) (by decide)) hI (by omega)) (by decide)) (fun o2 t2 q => ?_)
  obtain ⟨rfl, rfl⟩ := q
  exact ⟨Or.inl ⟨_, rfl, rfl, rfl⟩, zyS_q H hq zFm_0⟩
theorem zc_isWell {s : az_S} {h : Nat} (H : zyS s h) (hh : h + 10 ≤ 10000) : zCs am_m_X9_isWell am_m_X10_isWell [] [] s h := by
  have hI := H.1.2.1
  refine az_wk (az_deep (zs_X9_isWell (d := 7) (by decide) H.1.1 hI (by omega)) (by decide)) (fun o t q => ?_)
  obtain ⟨rfl, hq⟩ := q
  refine az_wk (az_deep (zs_X10_isWell (d := 7) (by decide) (hq 35 (by decide) (by decide) (by decide) (by decide) (by decide)) hI (by omega)) (by decide)) (fun o2 t2 q => ?_)
  obtain ⟨rfl, rfl⟩ := q
  exact ⟨Or.inl ⟨_, rfl, by rw [zchs_5 hI], rfl⟩, zyS_q H hq zFm_0⟩
theorem zc_sum_1 {s : az_S} {h : Nat} (H : zyS s h) (hh : h + 10 ≤ 10000) : zCs am_m_X9_sum am_m_X10_sum [az_i 1] [] s h := by
  have hI := H.1.2.1
  refine az_wk (az_deep (zs_X9_sum_1 (d := 7) (by decide) H.1.1 hI (by omega)) (by decide)) (fun o t q => ?_)
  obtain ⟨rfl, hq⟩ := q
  refine az_wk (az_deep (zs_X10_sum_1 (d := 7) (by decide) (hq 35 (by decide) (by decide) (by decide) (by decide) (by decide)) hI (by omega)) (by decide)) (fun o2 t2 q => ?_)
  obtain ⟨rfl, rfl⟩ := q
  exact ⟨Or.inl ⟨_, rfl, rfl, rfl⟩, zyS_q H hq zFm_0⟩
theorem zc_sum_0 {s : az_S} {h : Nat} (H : zyS s h) (hh : h + 10 ≤ 10000) : zCs am_m_X9_sum am_m_X10_sum [az_i 0] [] s h := by
  have hI := H.1.2.1
  refine az_wk (az_deep (zs_X9_sum_0 (d := 7) (by decide) H.1.1 hI (by omega)) (by decide)) (fun o t q => ?_)
  obtain ⟨rfl, hq⟩ := q
  refine az_wk (az_deep (zs_X10_sum_0 (d := 7) (by decide) (hq 35 (by decide) (by decide) (by decide) (by decide) (by decide)) hI (by omega)) (by decide)) (fun o2 t2 q => ?_)
  obtain ⟨rfl, rfl⟩ := q
  exact ⟨Or.inl ⟨_, rfl, rfl, rfl⟩, zyS_q H hq zFm_0⟩
