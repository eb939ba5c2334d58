/-! THE COMMANDS: what became of one (0 done: its number; 1 no such; 2 out of range; 3 refused: reason, detail), and the row behind it -/
abbrev zQ : Type := Nat × Int × Int × zR
def zo_bridge (S : zR) (o p q r : Int) : zQ :=
  if ¬ (0 ≤ o ∧ o ≤ 5) ∨ ¬ (0 ≤ p ∧ p ≤ 5) then (1, 0, 0, S)
  else if ¬ (1 ≤ q ∧ q ≤ 9) ∨ ¬ (0 ≤ r ∧ r ≤ 9) then (2, 0, 0, S)
  else if o = p then (3, 2, o, S)
  else if zn S 0 = 10 then (3, 1, 10, S)
  else (0, ((zn S 0 : Nat) : Int), 0, zbS S o p q r)
def zo_troll (S : zR) : zQ :=
  if zn S 1 = 6 then (3, 1, 6, S) else (0, ((zn S 1 : Nat) : Int), 0, zup (zup S (126 + 4 * zn S 1 + 0) (-1)) 1 (S 1 + 1))
def zo_goat (S : zR) (l c : Int) : zQ :=
  if ¬ (0 ≤ l ∧ l ≤ 5) then (1, 0, 0, S)
  else if ¬ (0 ≤ c ∧ c ≤ 99) then (2, 0, 0, S)
  else if zn S 2 = 5 then (3, 1, 5, S)
  else (0, ((zn S 2 : Nat) : Int), 0, zup (zup (zup (zup S (150 + 5 * zn S 2 + 0) l) (150 + 5 * zn S 2 + 1) c) 2 (S 2 + 1)) 5 (S 5 + c))
def zo_post (S : zR) (t b : Int) : zQ :=
  if ¬ (0 ≤ t ∧ t < ((zn S 1 : Nat) : Int)) ∨ ¬ (0 ≤ b ∧ b < ((zn S 0 : Nat) : Int)) then (1, 0, 0, S)
  else if zT S t.toNat 0 = b then (3, 3, b, S)
  else if 0 ≤ zT S t.toNat 0 ∧ 0 ≤ zB S (zT S t.toNat 0).toNat 5 then (3, 10, zB S (zT S t.toNat 0).toNat 5, S)
  else if 0 ≤ zat S b.toNat then (3, 4, zat S b.toNat, S)
  else (0, zT S t.toNat 0, 0, zup S (126 + 4 * t.toNat + 0) b)
def zo_leave (S : zR) (t : Int) : zQ :=
  if ¬ (0 ≤ t ∧ t < ((zn S 1 : Nat) : Int)) then (1, 0, 0, S)
  else if zT S t.toNat 0 = -1 then (3, 9, t, S)
  else if 0 ≤ zB S (zT S t.toNat 0).toNat 5 then (3, 10, zB S (zT S t.toNat 0).toNat 5, S)
  else (0, zT S t.toNat 0, 0, zup S (126 + 4 * t.toNat + 0) (-1))
def zo_riddle (S : zR) (t d n : Int) : zQ :=
  if ¬ (0 ≤ t ∧ t < ((zn S 1 : Nat) : Int)) then (1, 0, 0, S)
  else if ¬ (1 ≤ d ∧ d ≤ 9) ∨ ¬ (1 ≤ n ∧ n ≤ 48) then (2, 0, 0, S)
  else if S 3 < zT S t.toNat 3 then (3, 5, zT S t.toNat 3 - S 3, S)
  else (0, S 3 + n, 0, zup (zup S (126 + 4 * t.toNat + 2) d) (126 + 4 * t.toNat + 3) (S 3 + n))
def zo_fog (S : zR) (b n : Int) : zQ :=
  if ¬ (0 ≤ b ∧ b < ((zn S 0 : Nat) : Int)) then (1, 0, 0, S)
  else if ¬ (0 ≤ n ∧ n ≤ 48) then (2, 0, 0, S)
  else if (n = 0 ∧ ¬ S 3 < zB S b.toNat 4) ∨ (¬ n = 0 ∧ zB S b.toNat 4 = S 3 + n) then (3, 3, n, S)
  else (0, S 3 + n, 0, zup S (6 + 12 * b.toNat + 4) (S 3 + n))
def zo_price (S : zR) (b r : Int) : zQ :=
  if ¬ (0 ≤ b ∧ b < ((zn S 0 : Nat) : Int)) then (1, 0, 0, S)
  else if ¬ (0 ≤ r ∧ r ≤ 9) then (2, 0, 0, S)
  else if zB S b.toNat 3 = r then (3, 3, r, S)
  else if 0 ≤ zB S b.toNat 5 then (3, 10, zB S b.toNat 5, S)
  else (0, zB S b.toNat 3, 0, zup S (6 + 12 * b.toNat + 3) r)
/-- the row behind a toll that is paid, behind a crossing -/
def zpS (S : zR) (g b : Nat) : zR :=
  if 0 ≤ zB S b 5 then zup (zup S (150 + 5 * g + 1) (zG S g 1 - zdue S b)) (6 + 12 * b + (7 + g)) (zB S b (7 + g) + zdue S b)
  else if 0 < zdue S b then zup (zup S (150 + 5 * g + 1) (zG S g 1 - zdue S b)) (126 + 4 * (zat S b).toNat + 1) (zT S (zat S b).toNat 1 + zdue S b)
  else zup S (150 + 5 * g + 1) (zG S g 1 - zdue S b)
def zcS (S : zR) (g b : Nat) : zR :=
  zup (zup (zup (zup (zup (zpS S g b) (150 + 5 * g + 0) (zB S b 0 + zB S b 1 - zG S g 0)) (150 + 5 * g + 3) (zG S g 3 + ztk S b)) (150 + 5 * g + 4) (zG S g 4 + 1)) (6 + 12 * b + 6) (zB S b 6 + 1)) 4 (S 4 + 1)
def zo_cross (S : zR) (g b : Int) : zQ :=
  if ¬ (0 ≤ g ∧ g < ((zn S 2 : Nat) : Int)) ∨ ¬ (0 ≤ b ∧ b < ((zn S 0 : Nat) : Int)) then (1, 0, 0, S)
  else if zG S g.toNat 2 = 1 then (3, 6, g, S)
  else if ¬ zB S b.toNat 0 = zG S g.toNat 0 ∧ ¬ zB S b.toNat 1 = zG S g.toNat 0 then (3, 7, zG S g.toNat 0, S)
  else if 0 < zdue S b.toNat - zG S g.toNat 1 then (3, 8, zdue S b.toNat - zG S g.toNat 1, S)
  else (0, ztk S b.toNat, 0, zcS S g.toNat b.toNat)
def zo_dispute (S : zR) (g b : Int) : zQ :=
  if ¬ (0 ≤ g ∧ g < ((zn S 2 : Nat) : Int)) ∨ ¬ (0 ≤ b ∧ b < ((zn S 0 : Nat) : Int)) then (1, 0, 0, S)
  else if ¬ 0 ≤ zat S b.toNat then (3, 9, b, S)
  else if 0 ≤ zB S b.toNat 5 then (3, 10, zB S b.toNat 5, S)
  else (0, zcd (zup S (6 + 12 * b.toNat + 5) g), 0, zup S (6 + 12 * b.toNat + 5) g)
/-- the row behind a settlement: k goats got their share -/
def zsl (T : zR) (b : Nat) (f : Int) : Nat → zR
  | 0 => T
  | k + 1 => zup (zup (zsl T b f k) (150 + 5 * k + 1) (zG T k 1 + (if f = 1 then 0 else zB T b (7 + k)))) (6 + 12 * b + (7 + k)) 0
def zs5 (S : zR) (b : Nat) : Int := zs 5 (fun g => zB S b (7 + g))
def zsT (S : zR) (b : Nat) (f : Int) : zR := if f = 1 then zup S (126 + 4 * (zat S b).toNat + 1) (zT S (zat S b).toNat 1 + zs5 S b) else S
def zsS (S : zR) (b : Nat) (f : Int) : zR := zup (zsl (zsT S b f) b f 5) (6 + 12 * b + 5) (-1)
def zo_settle (S : zR) (b f : Int) : zQ :=
  if ¬ (0 ≤ b ∧ b < ((zn S 0 : Nat) : Int)) then (1, 0, 0, S)
  else if ¬ 0 ≤ zB S b.toNat 5 then (3, 11, b, S)
  else (0, zs5 S b.toNat, 0, zsS S b.toNat f)
def zo_strike (S : zR) (g v : Int) : zQ :=
  if ¬ (0 ≤ g ∧ g < ((zn S 2 : Nat) : Int)) then (1, 0, 0, S)
  else if zG S g.toNat 2 = v then (3, 3, v, S)
  else (0, zstr (zup S (150 + 5 * g.toNat + 2) v), 0, zup S (150 + 5 * g.toNat + 2) v)
def zo_pass (S : zR) (n : Int) : zQ :=
  if ¬ (1 ≤ n ∧ n ≤ 48) then (2, 0, 0, S) else (0, zcr S n, 0, zup S 3 (S 3 + n))
/-- what a change answers in the class: the verdict, the relation, all else as it was -/
def zCh (s t : az_S) (r : zQ) : Prop :=
  zRel (t 3) r.2.2.2 ∧ t 5 0 = r.1 ∧ (r.1 = 0 → t 5 1 = r.2.1) ∧ (r.1 = 3 → t 5 2 = r.2.1 ∧ t 5 3 = r.2.2.1) ∧ (∀ i, i ≠ 3 → i ≠ 5 → t i = s i)
abbrev zCq (s : az_S) (r : zQ) : az_O → az_S → Prop := fun o t => o = .inl (some (az_r 5)) ∧ zCh s t r
theorem zrh_d {S : zR} {t : Nat} : (S 3 < zT S t 3 → zrh S t = zT S t 3 - S 3) ∧ (¬ S 3 < zT S t 3 → zrh S t = 0) := by
  unfold zrh
  refine ⟨fun h => if_pos (by omega), fun h => if_neg (by omega)⟩
theorem zup_self {S : zR} {i : Nat} {v : Int} (h : v = S i) : zup S i v = S := by
  funext j
  unfold zup
  split
  · rename_i q; rw [q, h]
  · rfl
theorem zup_comm {S : zR} {i j : Nat} (v w : Int) (h : i ≠ j) : zup (zup S i v) j w = zup (zup S j w) i v := by
  funext k
  unfold zup
  by_cases q1 : k = j
  · rw [if_pos q1, if_neg (by omega), if_pos q1]
  · rw [if_neg q1]
    by_cases q2 : k = i
    · rw [if_pos q2, if_pos q2]
    · rw [if_neg q2, if_neg q2, if_neg q1]
theorem zn_up {S : zR} {i k : Nat} {v : Int} (h : k ≠ i) : zn (zup S i v) k = zn S k := by unfold zn; rw [zup_ne _ _ h]
theorem zsl_o (T : zR) (b : Nat) (f : Int) : ∀ (k j : Nat), (∀ g, g < k → j ≠ 150 + 5 * g + 1 ∧ j ≠ 6 + 12 * b + (7 + g)) → zsl T b f k j = T j
  | 0, _, _ => rfl
  | k + 1, j, h => by
    unfold zsl
    rw [zup_ne _ _ (h k (by omega)).2, zup_ne _ _ (h k (by omega)).1]
    exact zsl_o T b f k j (fun g hg => h g (by omega))
theorem zdue_r {S : zR} {h : Nat} (hI : zInv S h) (hh : h ≤ 10000) {b : Nat} (hb : b < zn S 0) : 0 ≤ zdue S b ∧ zdue S b ≤ 9 ∧ (0 < zdue S b → 0 ≤ zat S b) := by
  have h1 := zI_b hI hh hb
  unfold zdue
  split
  · rename_i q; exact ⟨by omega, by omega, fun _ => q.1⟩
  · exact ⟨by omega, by omega, by omega⟩
theorem zdn_r {S : zR} {h : Nat} (hI : zInv S h) (hh : h ≤ 10000) {t : Nat} (ht : t < 6) : 0 ≤ zdn S t ∧ zdn S t ≤ 9 := by
  have h1 := zI_t hI hh ht
  unfold zdn
  split <;> omega
theorem ztk_r {S : zR} {h : Nat} (hI : zInv S h) (hh : h ≤ 10000) {b : Nat} (hb : b < zn S 0) : 1 ≤ ztk S b ∧ ztk S b ≤ 27 := by
  have h1 := zI_b hI hh hb
  unfold ztk
  by_cases q : 0 ≤ zat S b
  · rw [if_pos q]
    have h2 := zdn_r hI hh (t := (zat S b).toNat) (by omega)
    split <;> omega
  · rw [if_neg q]
    split <;> omega
/-- what a payment leaves -/
theorem zpS_o {S : zR} {g b j : Nat} (h1 : j ≠ 150 + 5 * g + 1) (h2 : j ≠ 6 + 12 * b + (7 + g)) (h3 : j ≠ 126 + 4 * (zat S b).toNat + 1) : zpS S g b j = S j := by
  unfold zpS
  split
  · rw [zup_ne _ _ h2, zup_ne _ _ h1]
  · split
    · rw [zup_ne _ _ h3, zup_ne _ _ h1]
    · rw [zup_ne _ _ h1]
theorem zcol_up {S : zR} {g b : Nat} (hb : b < 10) (hg : g < 5) {v : Int} {j : Nat} (hj : j ≠ 6 + 12 * b + (7 + g)) (hj2 : ∀ c, c < 10 → j ≠ 6 + 12 * c + (7 + g)) (w : Int) : zs 10 (fun c => zB (zup (zup S j w) (6 + 12 * b + (7 + g)) v) c (7 + g)) = zs 10 (fun c => zB S c (7 + g)) + (v - zB S b (7 + g)) := by
  have q := zs_upd (n := 10) (f := fun c => zB S c (7 + g)) (g := fun c => zB (zup (zup S j w) (6 + 12 * b + (7 + g)) v) c (7 + g)) b hb (fun c hc hne => by
    unfold zB
    rw [zup_ne _ _ (by omega), zup_ne _ _ (Ne.symm (hj2 c hc))])
  rw [q]
  have e : zB (zup (zup S j w) (6 + 12 * b + (7 + g)) v) b (7 + g) = v := zup_eq _ _ _
  rw [e]
theorem zV_hour_id {S : zR} {h h2 : Nat} (hI : zInv S h) (hle : h ≤ h2) : zInv S h2 := by
  have q := zV_hour hI hle (v := S 3) (by have := hI.1; omega)
  rw [zup_self rfl] at q
  exact q
theorem zpS_I {S : zR} {h : Nat} (hI : zInv S h) (hh : h ≤ 10000) {g b : Nat} (hg : g < zn S 2) (hb : b < zn S 0) (hp : zdue S b ≤ zG S g 1) : zInv (zpS S g b) (h + 1) := by
  have hn := zn_le hI
  have hd := zdue_r hI hh hb
  have hgg := hI.2.2.2.2.1 g (by omega)
  have hpp := (hI.2.2.1 b (by omega)).2.2.2.2.1 g (by omega)
  unfold zIg at hgg
  have h1 := zV_purse hI (Nat.le_refl h) hg (v := zG S g 1 - zdue S b) ⟨by omega, by omega⟩
  have n0 : zn (zup S (150 + 5 * g + 1) (zG S g 1 - zdue S b)) 0 = zn S 0 := zn_up (by omega)
  have n2 : zn (zup S (150 + 5 * g + 1) (zG S g 1 - zdue S b)) 2 = zn S 2 := zn_up (by omega)
  have ep : ∀ c, c < 10 → zB (zup S (150 + 5 * g + 1) (zG S g 1 - zdue S b)) c (7 + g) = zB S c (7 + g) := fun c hc => zup_ne _ _ (by omega)
  have eg : zG (zup S (150 + 5 * g + 1) (zG S g 1 - zdue S b)) g 1 = zG S g 1 - zdue S b := zup_eq _ _ _
  unfold zpS
  split
  · refine zV_paid h1 (by omega) (by rw [n0]; exact hb) (by rw [n2]; exact hg) ⟨by omega, ?_⟩
    rw [eg, ep b (by omega), zs_ext (fun c hc => ep c hc)]
    omega
  · split
    · rename_i q1 q2
      have hat := zat_is (hd.2.2 q2)
      have ht := hI.2.2.2.1 (zat S b).toNat (by omega)
      unfold zIt at ht
      refine zV_coins h1 (by omega) (by omega) ⟨by omega, by omega⟩
    · exact zV_hour_id h1 (by omega)
theorem zat_zpS {S : zR} {h : Nat} (hI : zInv S h) (hh : h ≤ 10000) {g b : Nat} (hg : g < zn S 2) (hb : b < zn S 0) (c : Nat) : zat (zpS S g b) c = zat S c := by
  have hn := zn_le hI
  have hr := zat_r hI b
  exact zat_ext (S := S) (T := zpS S g b) (by unfold zn; rw [zpS_o (by omega) (by omega) (by omega)]) (fun t ht => zpS_o (by omega) (by omega) (by omega)) c
theorem ztk_zpS {S : zR} {h : Nat} (hI : zInv S h) (hh : h ≤ 10000) {g b : Nat} (hg : g < zn S 2) (hb : b < zn S 0) : ztk (zpS S g b) b = ztk S b := by
  have hn := zn_le hI
  have hr := zat_r hI b
  have e3 : zpS S g b 3 = S 3 := zpS_o (by omega) (by omega) (by omega)
  have eB : ∀ k, k < 7 → zB (zpS S g b) b k = zB S b k := fun k hk => zpS_o (by omega) (by omega) (by omega)
  have eT : ∀ t k, t < 6 → k ≠ 1 → k < 4 → zT (zpS S g b) t k = zT S t k := fun t k ht hk hk2 => zpS_o (by omega) (by omega) (by omega)
  unfold ztk
  rw [zat_zpS hI hh hg hb, e3, eB 4 (by omega), eB 2 (by omega)]
  congr 1
  by_cases q : 0 ≤ zat S b
  · rw [if_pos q, if_pos q]
    unfold zdn
    rw [e3, eT _ 3 (by omega) (by omega) (by omega), eT _ 2 (by omega) (by omega) (by omega)]
  · rw [if_neg q, if_neg q]
abbrev zN (S : zR) : Prop := zn S 0 ≤ 10 ∧ zn S 1 ≤ 6
theorem zN_up {S : zR} (h : zN S) {i : Nat} {v : Int} (hi : 2 < i) : zN (zup S i v) := by
  unfold zN
  rw [zn_up (by omega), zn_up (by omega)]
  exact h
theorem zpS_n {S : zR} {h : Nat} (hI : zInv S h) {g b : Nat} (hg : g < zn S 2) (hb : b < zn S 0) : zn (zpS S g b) 0 = zn S 0 ∧ zn (zpS S g b) 1 = zn S 1 ∧ zn (zpS S g b) 2 = zn S 2 := by
  have hn := zn_le hI
  have hr := zat_r hI b
  unfold zn
  rw [zpS_o (by omega) (by omega) (by omega), zpS_o (by omega) (by omega) (by omega), zpS_o (by omega) (by omega) (by omega)]
  exact ⟨rfl, rfl, rfl⟩
theorem zac_s {S : zR} {h : Nat} (hI : zInv S h) (hh : h ≤ 10000) {b : Nat} (hb : b < zn S 0) {l : Int} (hl : -1 < l) : (zac S b l = -1 ↔ (¬ zB S b 0 = l ∧ ¬ zB S b 1 = l)) ∧ (¬ zac S b l = -1 → zac S b l = zB S b 0 + zB S b 1 - l) ∧ -1 ≤ zac S b l ∧ zac S b l ≤ 5 := by
  have h1 := zI_b hI hh hb
  unfold zac
  split
  · omega
  · split <;> omega
theorem zch_5 {S : zR} {h : Nat} (hI : zInv S h) {b : Nat} (hb : b < 10) : zch S b = zs5 S b := by
  have hn := zn_le hI
  have key : ∀ n, zn S 2 ≤ n → n ≤ 5 → zs n (fun g => zB S b (7 + g)) = zch S b := by
    intro n
    induction n with
    | zero => intro h1 _; unfold zch; rw [show zn S 2 = 0 from by omega]
    | succ n ih =>
      intro h1 h2
      by_cases q : zn S 2 = n + 1
      · unfold zch; rw [q]
      · show zs n _ + zB S b (7 + n) = _
        rw [ih (by omega) (by omega), (hI.2.2.1 b hb).2.2.2.2.2.1 n (by omega) (by omega)]
        omega
  exact (key 5 hn.2.2 (Nat.le_refl 5)).symm
theorem zch_r {S : zR} {h : Nat} (hI : zInv S h) (hh : h ≤ 10000) {b : Nat} (hb : b < 10) : 0 ≤ zch S b ∧ zch S b ≤ 495 := by
  have hn := zn_le hI
  have h1 := zs_le (n := zn S 2) (f := fun g => zB S b (7 + g)) (a := 0) (b := 99) (fun g hg => zI_p hI hh hb (by omega))
  unfold zch
  omega
/-- with no more goats the rest of a settlement changes nothing -/
theorem zsl_5 {T : zR} {b : Nat} {f : Int} (hb : b < 10) (h0 : ∀ g, g < 5 → zn T 2 ≤ g → zB T b (7 + g) = 0) (hn : zn T 2 ≤ 5) : zsl T b f 5 = zsl T b f (zn T 2) := by
  have key : ∀ n, zn T 2 ≤ n → n ≤ 5 → zsl T b f n = zsl T b f (zn T 2) := by
    intro n
    induction n with
    | zero => intro h1 _; rw [show zn T 2 = 0 from by omega]
    | succ n ih =>
      intro h1 h2
      by_cases q : zn T 2 = n + 1
      · rw [q]
      · have e0 := h0 n (by omega) (by omega)
        show zup (zup (zsl T b f n) (150 + 5 * n + 1) (zG T n 1 + (if f = 1 then 0 else zB T b (7 + n)))) (6 + 12 * b + (7 + n)) 0 = _
        rw [ih (by omega) (by omega), e0]
        have e1 : zsl T b f (zn T 2) (150 + 5 * n + 1) = zG T n 1 := zsl_o T b f _ _ (fun g hg => by omega)
        have e2 : zsl T b f (zn T 2) (6 + 12 * b + (7 + n)) = 0 := by rw [zsl_o T b f _ _ (fun g hg => by omega)]; exact e0
        rw [zup_self (i := 150 + 5 * n + 1) (by rw [e1]; split <;> omega), zup_self (by rw [e2])]
  exact key 5 hn (Nat.le_refl 5)

