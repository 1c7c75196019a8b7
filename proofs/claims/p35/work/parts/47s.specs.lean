def zrc (z : Nat → Int32) (g : Int32) : Nat → Nat → Int32
  | 0 => z
  | k + 1 => if zB (zrc z g k) k 0 = g ∧ ¬ zB (zrc z g k) k 3 ≤ 0 then zwaste (zrc z g k) k (zB (zrc z g k) k 3) 2 else zrc z g k
theorem zrc_1 {z lf : Nat → Int32} {g : Int32} {k : Nat} (h : lf = zrc z g k) (h1 : zB lf k 0 = g) (h2 : ¬ zB lf k 3 ≤ 0) : zwaste lf k (zB lf k 3) 2 = zrc z g (k + 1) := by
  subst h
  exact (if_pos ⟨h1, h2⟩).symm
theorem zrc_2 {z lf : Nat → Int32} {g : Int32} {k : Nat} (h : lf = zrc z g k) (h1 : ¬ (zB lf k 0 = g ∧ ¬ zB lf k 3 ≤ 0)) : lf = zrc z g (k + 1) := by
  subst h
  exact (if_neg h1).symm
