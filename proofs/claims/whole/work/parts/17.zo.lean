/-! THE COMMANDS: what became of one (0 done: its number; 1 no such; 2 out of range; 3 refused: reason, detail), and the row behind it -/
abbrev zQ : Type := Nat × Int × Int × zR
def zo_bridge (S : zR) (o p q r : Int) : zQ :=
  if ¬ (0 ≤ o ∧ o ≤ 5) ∨ ¬ (0 ≤ p ∧ p ≤ 5) then (1, 0, 0, S)
  else if ¬ (1 ≤ q ∧ q ≤ 9) ∨ ¬ (0 ≤ r ∧ r ≤ 9) then (2, 0, 0, S)
  else if o = p then (3, 2, o, S)
  else if zn S 0 = 10 then (3, 1, 10, S)
  else (0, ((zn S 0 : Nat) : Int), 0, zbS S o p q r)
def zo_troll (S : zR) : zQ :=
  if zn S 1 = 6 then (3, 1, 6, S) else (0, ((zn S 1 : Nat) : Int), 0, zup (zup S (126 + 4 * zn S 1 + 0) (-1)) 1 (S 1 + 1))
def zo_goat (S : zR) (l c : Int) : zQ :=
  if ¬ (0 ≤ l ∧ l ≤ 5) then (1, 0, 0, S)
  else if ¬ (0 ≤ c ∧ c ≤ 99) then (2, 0, 0, S)
  else if zn S 2 = 5 then (3, 1, 5, S)
  else (0, ((zn S 2 : Nat) : Int), 0, zup (zup (zup (zup S (150 + 5 * zn S 2 + 0) l) (150 + 5 * zn S 2 + 1) c) 2 (S 2 + 1)) 5 (S 5 + c))
def zo_post (S : zR) (t b : Int) : zQ :=
  if ¬ (0 ≤ t ∧ t < ((zn S 1 : Nat) : Int)) ∨ ¬ (0 ≤ b ∧ b < ((zn S 0 : Nat) : Int)) then (1, 0, 0, S)
  else if zT S t.toNat 0 = b then (3, 3, b, S)
  else if 0 ≤ zT S t.toNat 0 ∧ 0 ≤ zB S (zT S t.toNat 0).toNat 5 then (3, 10, zB S (zT S t.toNat 0).toNat 5, S)
  else if 0 ≤ zat S b.toNat then (3, 4, zat S b.toNat, S)
  else (0, zT S t.toNat 0, 0, zup S (126 + 4 * t.toNat + 0) b)
def zo_leave (S : zR) (t : Int) : zQ :=
  if ¬ (0 ≤ t ∧ t < ((zn S 1 : Nat) : Int)) then (1, 0, 0, S)
  else if zT S t.toNat 0 = -1 then (3, 9, t, S)
  else if 0 ≤ zB S (zT S t.toNat 0).toNat 5 then (3, 10, zB S (zT S t.toNat 0).toNat 5, S)
  else (0, zT S t.toNat 0, 0, zup S (126 + 4 * t.toNat + 0) (-1))
def zo_riddle (S : zR) (t d n : Int) : zQ :=
  if ¬ (0 ≤ t ∧ t < ((zn S 1 : Nat) : Int)) then (1, 0, 0, S)
  else if ¬ (1 ≤ d ∧ d ≤ 9) ∨ ¬ (1 ≤ n ∧ n ≤ 48) then (2, 0, 0, S)
  else if S 3 < zT S t.toNat 3 then (3, 5, zT S t.toNat 3 - S 3, S)
  else (0, S 3 + n, 0, zup (zup S (126 + 4 * t.toNat + 2) d) (126 + 4 * t.toNat + 3) (S 3 + n))
def zo_fog (S : zR) (b n : Int) : zQ :=
  if ¬ (0 ≤ b ∧ b < ((zn S 0 : Nat) : Int)) then (1, 0, 0, S)
  else if ¬ (0 ≤ n ∧ n ≤ 48) then (2, 0, 0, S)
  else if (n = 0 ∧ ¬ S 3 < zB S b.toNat 4) ∨ (¬ n = 0 ∧ zB S b.toNat 4 = S 3 + n) then (3, 3, n, S)
  else (0, S 3 + n, 0, zup S (6 + 12 * b.toNat + 4) (S 3 + n))
def zo_price (S : zR) (b r : Int) : zQ :=
  if ¬ (0 ≤ b ∧ b < ((zn S 0 : Nat) : Int)) then (1, 0, 0, S)
  else if ¬ (0 ≤ r ∧ r ≤ 9) then (2, 0, 0, S)
  else if zB S b.toNat 3 = r then (3, 3, r, S)
  else if 0 ≤ zB S b.toNat 5 then (3, 10, zB S b.toNat 5, S)
  else (0, zB S b.toNat 3, 0, zup S (6 + 12 * b.toNat + 3) r)
/-- the row behind a crossing -/
def zcS (S : zR) (g b : Nat) : zR :=
  zup (zup (zup (zup (zup (if 0 ≤ zB S b 5 then zup (zup S (150 + 5 * g + 1) (zG S g 1 - zdue S b)) (6 + 12 * b + (7 + g)) (zB S b (7 + g) + zdue S b)
    else if 0 < zdue S b then zup (zup S (150 + 5 * g + 1) (zG S g 1 - zdue S b)) (126 + 4 * (zat S b).toNat + 1) (zT S (zat S b).toNat 1 + zdue S b)
    else zup S (150 + 5 * g + 1) (zG S g 1 - zdue S b))
    (150 + 5 * g + 0) (zB S b 0 + zB S b 1 - zG S g 0)) (150 + 5 * g + 3) (zG S g 3 + ztk S b)) (150 + 5 * g + 4) (zG S g 4 + 1)) (6 + 12 * b + 6) (zB S b 6 + 1)) 4 (S 4 + 1)
def zo_cross (S : zR) (g b : Int) : zQ :=
  if ¬ (0 ≤ g ∧ g < ((zn S 2 : Nat) : Int)) ∨ ¬ (0 ≤ b ∧ b < ((zn S 0 : Nat) : Int)) then (1, 0, 0, S)
  else if zG S g.toNat 2 = 1 then (3, 6, g, S)
  else if ¬ zB S b.toNat 0 = zG S g.toNat 0 ∧ ¬ zB S b.toNat 1 = zG S g.toNat 0 then (3, 7, zG S g.toNat 0, S)
  else if 0 < zdue S b.toNat - zG S g.toNat 1 then (3, 8, zdue S b.toNat - zG S g.toNat 1, S)
  else (0, ztk S b.toNat, 0, zcS S g.toNat b.toNat)
def zo_dispute (S : zR) (g b : Int) : zQ :=
  if ¬ (0 ≤ g ∧ g < ((zn S 2 : Nat) : Int)) ∨ ¬ (0 ≤ b ∧ b < ((zn S 0 : Nat) : Int)) then (1, 0, 0, S)
  else if ¬ 0 ≤ zat S b.toNat then (3, 9, b, S)
  else if 0 ≤ zB S b.toNat 5 then (3, 10, zB S b.toNat 5, S)
  else (0, zcd (zup S (6 + 12 * b.toNat + 5) g), 0, zup S (6 + 12 * b.toNat + 5) g)
/-- the row behind a settlement: k goats got their share -/
def zsl (S T : zR) (b : Nat) (f : Int) : Nat → zR
  | 0 => T
  | k + 1 => zup (zup (zsl S T b f k) (150 + 5 * k + 1) (zG S k 1 + (if f = 1 then 0 else zB S b (7 + k)))) (6 + 12 * b + (7 + k)) 0
def zs5 (S : zR) (b : Nat) : Int := zs 5 (fun g => zB S b (7 + g))
def zsS (S : zR) (b : Nat) (f : Int) : zR := zup (zsl S (if f = 1 then zup S (126 + 4 * (zat S b).toNat + 1) (zT S (zat S b).toNat 1 + zs5 S b) else S) b f 5) (6 + 12 * b + 5) (-1)
def zo_settle (S : zR) (b f : Int) : zQ :=
  if ¬ (0 ≤ b ∧ b < ((zn S 0 : Nat) : Int)) then (1, 0, 0, S)
  else if ¬ 0 ≤ zB S b.toNat 5 then (3, 11, b, S)
  else (0, zs5 S b.toNat, 0, zsS S b.toNat f)
def zo_strike (S : zR) (g v : Int) : zQ :=
  if ¬ (0 ≤ g ∧ g < ((zn S 2 : Nat) : Int)) then (1, 0, 0, S)
  else if zG S g.toNat 2 = v then (3, 3, v, S)
  else (0, zstr (zup S (150 + 5 * g.toNat + 2) v), 0, zup S (150 + 5 * g.toNat + 2) v)
def zo_pass (S : zR) (n : Int) : zQ :=
  if ¬ (1 ≤ n ∧ n ≤ 48) then (2, 0, 0, S) else (0, zcr S n, 0, zup S 3 (S 3 + n))
/-- what a change answers in the class: the verdict, the relation, all else as it was -/
def zCh (s t : az_S) (r : zQ) : Prop :=
  zRel (t 3) r.2.2.2 ∧ t 5 0 = r.1 ∧ (r.1 = 0 → t 5 1 = r.2.1) ∧ (r.1 = 3 → t 5 2 = r.2.1 ∧ t 5 3 = r.2.2.1) ∧ (∀ i, i ≠ 3 → i ≠ 5 → t i = s i)
abbrev zCq (s : az_S) (r : zQ) : az_O → az_S → Prop := fun o t => o = .inl (some (az_r 5)) ∧ zCh s t r
theorem zrh_d {S : zR} {t : Nat} : (S 3 < zT S t 3 → zrh S t = zT S t 3 - S 3) ∧ (¬ S 3 < zT S t 3 → zrh S t = 0) := by
  unfold zrh
  refine ⟨fun h => if_pos (by omega), fun h => if_neg (by omega)⟩
