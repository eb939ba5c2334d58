/-! REFERENCE, 1: its numbers and sums; written by program (wip/tools/zg/r1.py) -/
theorem az_b_iff {p q : Prop} [Decidable p] [Decidable q] (h : p ↔ q) : az_b p = az_b q := by
  unfold az_b
  by_cases w : p
  · rw [if_pos w, if_pos (h.mp w)]
  · rw [if_neg w, if_neg (fun w2 => w (h.mpr w2))]
def zhl (S : zR) : Int := zs (zn S 1) (fun t => az_b (S 3 < zT S t 3))
