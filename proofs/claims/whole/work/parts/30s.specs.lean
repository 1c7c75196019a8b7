def ePass (days : Int32) (day : Int32) : Int32 := if ¬ (nI 1 ≤ days ∧ days ≤ nI 60) then -2 else if ¬ (day + days ≤ nI 9999) then -4 else nI 0
