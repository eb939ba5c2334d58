/-! THE TEXT OF ALL THAT HANGS: math -/
/-- whether one of the first k hangs on v -/
def zga (P : Nat → Int) (v : Nat) : Nat → Bool
  | 0 => false
  | k + 1 => zga P v k || decide (P k = ((v : Nat) : Int))
def zgx (P : Nat → Int) (g : Nat → List Int) (v : Nat) : Nat → List Int
  | 0 => []
  | k + 1 => zgx P g v k ++ (if P k = ((v : Nat) : Int) then (if zga P v k = true then 32 else 40) :: g k else [])
def zgt (P : Nat → Int) : Nat → Nat → List Int
  | 0, _ => []
  | n + 1, v => (48 + ((v : Nat) : Int)) :: (zgx P (zgt P n) v 6 ++ if zga P v 6 = true then [41] else [])
/-- k hangings up from u -/
def zgU (P : Nat → Int) (u : Nat) : Nat → Int
  | 0 => ((u : Nat) : Int)
  | k + 1 => if zgU P u k < 0 then -1 else P (zgU P u k).toNat
/-- no chain of n hangings up to v -/
def zgH (P : Nat → Int) (n v : Nat) : Prop := ∀ u, u < 6 → zgU P u n ≠ ((v : Nat) : Int)
def zgP (P R : Nat → Int) : Prop := ∀ v, v < 6 → -1 ≤ P v ∧ P v < 6 ∧ (0 ≤ P v → R (P v).toNat < R v)
theorem zgU_r {P R : Nat → Int} (hP : zgP P R) {u : Nat} (hu : u < 6) : ∀ k, -1 ≤ zgU P u k ∧ zgU P u k < 6
  | 0 => by show -1 ≤ ((u : Nat) : Int) ∧ ((u : Nat) : Int) < 6; omega
  | k + 1 => by
    have h := zgU_r hP hu k
    unfold zgU
    by_cases q : zgU P u k < 0
    · rw [if_pos q]; omega
    · rw [if_neg q]
      have := hP (zgU P u k).toNat (by omega)
      omega
theorem zgU_lt {P R : Nat → Int} (hP : zgP P R) {u : Nat} (hu : u < 6) {k : Nat} : ∀ j, 0 ≤ zgU P u (k + j + 1) → 0 ≤ zgU P u k ∧ R (zgU P u (k + j + 1)).toNat < R (zgU P u k).toNat
  | 0 => fun h => by
    have h1 := zgU_r hP hu k
    have e : zgU P u (k + 0 + 1) = if zgU P u k < 0 then -1 else P (zgU P u k).toNat := rfl
    rw [e] at h ⊢
    by_cases q : zgU P u k < 0
    · rw [if_pos q] at h; omega
    · rw [if_neg q] at h ⊢
      exact ⟨by omega, (hP _ (by omega)).2.2 h⟩
  | j + 1 => fun h => by
    have h1 := zgU_r hP hu (k + j + 1)
    have e : zgU P u (k + (j + 1) + 1) = if zgU P u (k + j + 1) < 0 then -1 else P (zgU P u (k + j + 1)).toNat := rfl
    rw [e] at h ⊢
    by_cases q : zgU P u (k + j + 1) < 0
    · rw [if_pos q] at h; omega
    · rw [if_neg q] at h ⊢
      have h2 := zgU_lt (k := k) hP hu j (by omega)
      have h3 := (hP _ (by omega)).2.2 h
      exact ⟨h2.1, by omega⟩
theorem zsu_add {f g : Nat → Int} : ∀ {n : Nat}, zs n (fun i => f i + g i) = zs n f + zs n g
  | 0 => rfl
  | n + 1 => by
    show zs n _ + (f n + g n) = (zs n f + f n) + (zs n g + g n)
    rw [zsu_add]; omega
theorem zsu_0 : ∀ {n : Nat}, zs n (fun _ => 0) = 0
  | 0 => rfl
  | n + 1 => by show zs n _ + 0 = 0; rw [zsu_0]; rfl
theorem zsu_swap {f : Nat → Nat → Int} {m : Nat} : ∀ {n : Nat}, zs n (fun i => zs m (f i)) = zs m (fun j => zs n (fun i => f i j))
  | 0 => by show 0 = zs m (fun _ => 0); rw [zsu_0]
  | n + 1 => by
    show zs n _ + zs m (f n) = zs m (fun j => zs n (fun i => f i j) + f n j)
    rw [zsu_add, zsu_swap]
theorem zsu_head {f : Nat → Int} : ∀ {n : Nat}, zs (n + 1) f = f 0 + zs n (fun k => f (k + 1))
  | 0 => by show 0 + f 0 = f 0 + 0; omega
  | n + 1 => by
    show zs (n + 1) f + f (n + 1) = f 0 + (zs n (fun k => f (k + 1)) + f (n + 1))
    rw [zsu_head]; omega
/-- a land is met once at most -/
theorem zgU_1 {P R : Nat → Int} (hP : zgP P R) {u v : Nat} (hu : u < 6) : ∀ n, 0 ≤ zs n (fun k => if zgU P u k = ((v : Nat) : Int) then 1 else 0) ∧ zs n (fun k => if zgU P u k = ((v : Nat) : Int) then 1 else 0) ≤ 1
  | 0 => ⟨Int.le_refl _, by show (0 : Int) ≤ 1; decide⟩
  | n + 1 => by
    have h := zgU_1 (v := v) hP hu n
    show 0 ≤ zs n _ + (if zgU P u n = ((v : Nat) : Int) then 1 else 0) ∧ zs n _ + (if zgU P u n = ((v : Nat) : Int) then 1 else 0) ≤ 1
    by_cases q : zgU P u n = ((v : Nat) : Int)
    · rw [if_pos q]
      have e : zs n (fun k => if zgU P u k = ((v : Nat) : Int) then (1 : Int) else 0) = 0 := by
        refine Eq.trans (zs_ext (g := fun _ => 0) (fun i hi => ?_)) zsu_0
        refine if_neg (fun q2 => ?_)
        have h3 := zgU_lt hP hu (k := i) (n - i - 1) (by rw [show i + (n - i - 1) + 1 = n from by omega]; omega)
        rw [show i + (n - i - 1) + 1 = n from by omega, q, q2] at h3
        omega
      rw [e]; omega
    · rw [if_neg q]; omega
/-- how many lands hang below v, and v -/
def zgN (P : Nat → Int) : Nat → Nat → Int
  | 0, _ => 0
  | n + 1, v => 1 + zs 6 (fun c => if P c = ((v : Nat) : Int) then zgN P n c else 0)
theorem zgN_eq {P R : Nat → Int} (hP : zgP P R) : ∀ n v, v < 6 → zgN P n v = zs 6 (fun u => zs n (fun k => if zgU P u k = ((v : Nat) : Int) then 1 else 0))
  | 0, v, _ => by show 0 = zs 6 (fun _ => 0); rw [zsu_0]
  | n + 1, v, hv => by
    have e1 : zs 6 (fun u => zs (n + 1) (fun k => if zgU P u k = ((v : Nat) : Int) then (1 : Int) else 0)) = zs 6 (fun u => (if u = v then 1 else 0) + zs n (fun k => zs 6 (fun c => if P c = ((v : Nat) : Int) then (if zgU P u k = ((c : Nat) : Int) then 1 else 0) else 0))) := by
      refine zs_ext (fun u hu => ?_)
      rw [zsu_head]
      refine congr (congrArg _ ?_) (zs_ext (fun k hk => ?_))
      · show (if ((u : Nat) : Int) = ((v : Nat) : Int) then (1 : Int) else 0) = _
        by_cases q : u = v
        · rw [if_pos (by omega), if_pos q]
        · rw [if_neg (by omega), if_neg q]
      · have hr := zgU_r hP hu k
        show (if (if zgU P u k < 0 then -1 else P (zgU P u k).toNat) = ((v : Nat) : Int) then (1 : Int) else 0) = _
        have hc : zgU P u k = -1 ∨ zgU P u k = 0 ∨ zgU P u k = 1 ∨ zgU P u k = 2 ∨ zgU P u k = 3 ∨ zgU P u k = 4 ∨ zgU P u k = 5 := by omega
        rcases hc with q | q | q | q | q | q | q <;> rw [q] <;> simp [zs] <;> omega
    rw [e1, zsu_add]
    show 1 + _ = _
    refine congr (congrArg _ ?_) ?_
    · have hc : v = 0 ∨ v = 1 ∨ v = 2 ∨ v = 3 ∨ v = 4 ∨ v = 5 := by omega
      rcases hc with rfl | rfl | rfl | rfl | rfl | rfl <;> rfl
    · rw [show zs 6 (fun u => zs n (fun k => zs 6 (fun c => if P c = ((v : Nat) : Int) then (if zgU P u k = ((c : Nat) : Int) then (1 : Int) else 0) else 0))) = zs 6 (fun u => zs 6 (fun c => zs n (fun k => if P c = ((v : Nat) : Int) then (if zgU P u k = ((c : Nat) : Int) then (1 : Int) else 0) else 0))) from zs_ext (fun u _ => zsu_swap)]
      rw [zsu_swap]
      refine zs_ext (fun c hc => ?_)
      by_cases q : P c = ((v : Nat) : Int)
      · simp only [if_pos q]
        exact zgN_eq hP n c hc
      · simp only [if_neg q, zsu_0]
theorem zgN_6 {P R : Nat → Int} (hP : zgP P R) {n v : Nat} (hv : v < 6) : zgN P n v ≤ 6 := by
  rw [zgN_eq hP n v hv]
  have := zs_le (n := 6) (f := fun u => zs n (fun k => if zgU P u k = ((v : Nat) : Int) then 1 else 0)) (a := 0) (b := 1) (fun u hu => zgU_1 hP hu n)
  omega
/-- no chain is longer than the lands -/
theorem zgH_6 {P R : Nat → Int} (hP : zgP P R) {v : Nat} (hv : v < 6) : zgH P 6 v := by
  intro u hu q
  have h1 : zs 6 (fun c => zs 7 (fun k => if zgU P u k = ((c : Nat) : Int) then (1 : Int) else 0)) = 7 := by
    rw [← zsu_swap (n := 7) (m := 6) (f := fun k c => if zgU P u k = ((c : Nat) : Int) then (1 : Int) else 0)]
    have e : zs 7 (fun k => zs 6 (fun c => if zgU P u k = ((c : Nat) : Int) then (1 : Int) else 0)) = zs 7 (fun _ => 1) := by
      refine zs_ext (fun k hk => ?_)
      have h0 : 0 ≤ zgU P u k := by
        by_cases q2 : k = 6
        · rw [q2, q]; omega
        · have := zgU_lt hP hu (k := k) (6 - k - 1) (by rw [show k + (6 - k - 1) + 1 = 6 from by omega, q]; omega)
          exact this.1
      have hr := zgU_r hP hu k
      have hc : zgU P u k = 0 ∨ zgU P u k = 1 ∨ zgU P u k = 2 ∨ zgU P u k = 3 ∨ zgU P u k = 4 ∨ zgU P u k = 5 := by omega
      rcases hc with q | q | q | q | q | q <;> rw [q] <;> rfl
    rw [e]; rfl
  have h2 := zs_le (n := 6) (f := fun c => zs 7 (fun k => if zgU P u k = ((c : Nat) : Int) then (1 : Int) else 0)) (a := 0) (b := 1) (fun c hc => zgU_1 hP hu 7)
  omega
theorem zgH_c {P : Nat → Int} {n v c : Nat} (h : zgH P (n + 1) v) (hc : P c = ((v : Nat) : Int)) : zgH P n c := by
  intro u hu q
  refine h u hu ?_
  show (if zgU P u n < 0 then -1 else P (zgU P u n).toNat) = _
  rw [q, if_neg (by omega), Int.toNat_natCast, hc]
theorem zgH_0 {P : Nat → Int} {v : Nat} (hv : v < 6) (h : zgH P 0 v) : False := h v hv rfl
theorem zgx_l {P : Nat → Int} {g : Nat → List Int} {f : Nat → Int} {v : Nat} (hg : ∀ c, c < 6 → P c = ((v : Nat) : Int) → ((g c).length : Int) ≤ 3 * f c - 2) : ∀ k, k ≤ 6 → ((zgx P g v k).length : Int) + az_b (zga P v k = true) ≤ 3 * zs k (fun c => if P c = ((v : Nat) : Int) then f c else 0)
  | 0, _ => by show (0 : Int) + az_b (false = true) ≤ 3 * 0; decide
  | k + 1, hk => by
    have h := zgx_l hg k (by omega)
    show (((zgx P g v k ++ (if P k = ((v : Nat) : Int) then (if zga P v k = true then 32 else 40) :: g k else [])).length : Nat) : Int) + az_b ((zga P v k || decide (P k = ((v : Nat) : Int))) = true) ≤ 3 * (zs k _ + (if P k = ((v : Nat) : Int) then f k else 0))
    by_cases q : P k = ((v : Nat) : Int)
    · have h2 := hg k (by omega) q
      rw [if_pos q, if_pos q, List.length_append, List.length_cons, az_b1 (by simp [q])]
      have h3 : 0 ≤ az_b (zga P v k = true) := by unfold az_b; split <;> decide
      omega
    · have e : az_b ((zga P v k || decide (P k = ((v : Nat) : Int))) = true) = az_b (zga P v k = true) := by
        cases zga P v k <;> simp [az_b, q]
      rw [if_neg q, if_neg q, List.append_nil, e]
      omega
theorem zgt_l {P : Nat → Int} : ∀ {n v : Nat}, v < 6 → zgH P n v → ((zgt P n v).length : Int) ≤ 3 * zgN P n v - 2
  | 0, v, hv, h => (zgH_0 hv h).elim
  | n + 1, v, hv, h => by
    have h1 := zgx_l (P := P) (g := zgt P n) (f := zgN P n) (v := v) (fun c hc q => zgt_l hc (zgH_c h q)) 6 (Nat.le_refl 6)
    show ((((48 + ((v : Nat) : Int)) :: (zgx P (zgt P n) v 6 ++ if zga P v 6 = true then [41] else [])).length : Nat) : Int) ≤ 3 * (1 + _) - 2
    rw [List.length_cons, List.length_append]
    have e : (((if zga P v 6 = true then [41] else [] : List Int).length : Nat) : Int) = az_b (zga P v 6 = true) := by
      by_cases q : zga P v 6 = true
      · rw [if_pos q, az_b1 q]; rfl
      · rw [if_neg q, az_b0 q]; rfl
    omega
theorem zgt_16 {P R : Nat → Int} (hP : zgP P R) {n v : Nat} (hv : v < 6) (h : zgH P n v) : (zgt P n v).length ≤ 16 := by
  have h1 := zgt_l hv h
  have h2 := zgN_6 hP (n := n) hv
  omega
/-- what is written before a place is no longer than all -/
theorem zgx_le {P : Nat → Int} {g : Nat → List Int} {v j : Nat} : ∀ k, j ≤ k → (zgx P g v j).length ≤ (zgx P g v k).length
  | 0, h => by obtain rfl : j = 0 := (by omega); exact Nat.le_refl _
  | k + 1, h => by
    by_cases q : j = k + 1
    · rw [q]; exact Nat.le_refl _
    · have := zgx_le (P := P) (g := g) (v := v) k (j := j) (by omega)
      show _ ≤ (zgx P g v k ++ _).length
      rw [List.length_append]; omega
theorem zgx_y {P : Nat → Int} {g : Nat → List Int} {v k : Nat} (h : P k = ((v : Nat) : Int)) : zgx P g v (k + 1) = zgx P g v k ++ ((if zga P v k = true then 32 else 40) :: g k) := by
  show zgx P g v k ++ _ = _
  rw [if_pos h]
theorem zgx_n {P : Nat → Int} {g : Nat → List Int} {v k : Nat} (h : ¬ P k = ((v : Nat) : Int)) : zgx P g v (k + 1) = zgx P g v k := by
  show zgx P g v k ++ _ = _
  rw [if_neg h, List.append_nil]
theorem zga_y {P : Nat → Int} {v k : Nat} (h : P k = ((v : Nat) : Int)) : zga P v (k + 1) = true := by
  show (zga P v k || decide (P k = ((v : Nat) : Int))) = true
  simp [h]
theorem zga_n {P : Nat → Int} {v k : Nat} (h : ¬ P k = ((v : Nat) : Int)) : zga P v (k + 1) = zga P v k := by
  show (zga P v k || decide (P k = ((v : Nat) : Int))) = _
  simp [h]
/-- the lands on which lands hang -/
theorem zhg_P {S : zR} {h : Nat} (hI : zInv S h) (hh : h ≤ 10000) {f : Nat} : zgP (zhg S f) (zdi S 1 f) := by
  intro v hv
  have h1 := zf_lt (fun u => decide (0 ≤ zlf S f u v)) 6
  refine ⟨h1.1, by have := h1.2; unfold zhg; omega, fun h0 => ?_⟩
  have h2 := zf_some _ _ h0
  rw [decide_eq_true_eq] at h2
  have h3 := zf_some _ _ h2
  rw [decide_eq_true_eq] at h3
  have h4 := zf_lt (fun b => decide (zdi S 1 f (zhg S f v).toNat + ztk S b = zdi S 1 f v ∧ zac S b (zhg S f v).toNat = ((v : Nat) : Int))) (zn S 0)
  have hb : (zlf S f (zhg S f v).toNat v).toNat < zn S 0 := by
    have h5 : 0 ≤ zlf S f (zhg S f v).toNat v := h2
    unfold zlf at h5 ⊢
    omega
  have hk := ztk_r hI hh hb
  have h6 : zdi S 1 f (zhg S f v).toNat + ztk S (zlf S f (zhg S f v).toNat v).toNat = zdi S 1 f v := h3.1
  omega
/-- a land without a way hangs on none, nor does the first -/
theorem zhg_no {S : zR} {h : Nat} (hI : zInv S h) (hh : h ≤ 10000) {f v : Nat} (hf : f < 6) (hv : v < 6) (h0 : ∃ E, zgd S 1 f 1000 E) (hn : v = f ∨ zdi S 1 f v = 1000) : zhg S f v = -1 := by
  obtain ⟨E, hE⟩ := h0
  have hg := zdi_g hE
  refine zf_none _ _ (fun u hu => ?_)
  rw [decide_eq_false_iff_not]
  intro h2
  have h3 := zf_some _ _ h2
  rw [decide_eq_true_eq] at h3
  have h4 := zf_lt (fun b => decide (zdi S 1 f u + ztk S b = zdi S 1 f v ∧ zac S b u = ((v : Nat) : Int))) (zn S 0)
  have hb : (zlf S f u v).toNat < zn S 0 := by
    unfold zlf at h2 ⊢
    omega
  have hk := ztk_r hI hh hb
  have h6 : zdi S 1 f u + ztk S (zlf S f u v).toNat = zdi S 1 f v := h3.1
  have ru := zdi_r hI hh hf (by omega) hg ⟨E, hE⟩ hu
  have h1 := hg.1
  have h7 := hg.2.1 u hu
  rcases hn with rfl | q <;> omega

