def eAsU (gq : Int32) (sq : Int32) (gz : Nat) : Int32 := if (¬ (xhas gq gz)) ∨ (¬ (xhas sq gz)) then -1 else nI 0
