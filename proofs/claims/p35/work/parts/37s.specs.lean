def eTaken (pl : Int32) (wh : Int32) (pt : Int32) : Int32 := if (pl < 0) ∨ (¬ (nI 0 ≤ wh ∧ wh ≤ nI 1)) then -2 else if ¬ (pl < pt) then -5 else nI 0
