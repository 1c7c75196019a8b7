def eSin (bq : Int32) (st : Int32) (bz : Nat) : Int32 := if (¬ (xhas bq bz)) ∨ (¬ (nI 1 ≤ st ∧ st ≤ nI 3)) then -1 else nI 0
def xfst (f : Nat → Nat) (sn k : Nat) : Nat → Int32
  | 0 => (-5)
  | m + 1 => if sn ≤ f k then nI k else xfst f sn (k + 1) m
theorem xfst_no {f : Nat → Nat} {sn k d : Nat} (h : k < d) (h2 : f k < sn) : xfst f sn k (d - k) = xfst f sn (k + 1) (d - (k + 1)) := by
  rw [show d - k = (d - (k + 1)) + 1 from by omega]
  exact if_neg (by omega)
theorem xfst_yes {f : Nat → Nat} {sn k d : Nat} (h : k < d) (h2 : sn ≤ f k) : xfst f sn k (d - k) = nI k := by
  rw [show d - k = (d - (k + 1)) + 1 from by omega]
  exact if_pos h2
theorem xfst_end {f : Nat → Nat} {sn k d : Nat} (h : d ≤ k) : xfst f sn k (d - k) = (-5) := by
  rw [show d - k = 0 from by omega]
  rfl
