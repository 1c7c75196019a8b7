def eAddGood (price : Int32) (life : Int32) (gz : Nat) : Int32 := if (¬ (nI 1 ≤ price ∧ price ≤ nI 9999)) ∨ (¬ (nI 1 ≤ life ∧ life ≤ nI 60)) then -2 else if 12 ≤ gz then -3 else nI 0
def zaddg (z : Nat → Int32) (price life : Int32) (gz : Nat) : Nat → Int32 := upd (upd (upd z 1 (nI (gz + 1))) (10 + 7 * gz + 0) price) (10 + 7 * gz + 1) life
