def eOrd (gq : Int32) (un : Int32) (le : Int32) (gz : Nat) (oz : Nat) : Int32 := if ¬ (xwisherr gq un le gz = 0) then xwisherr gq un le gz else if 30 ≤ oz then -3 else nI 0
def eWg (gq : Int32) (un : Int32) (le : Int32) (wh : Int32) (gz : Nat) : Int32 := if ¬ (xwisherr gq un le gz = 0) then xwisherr gq un le gz else if ¬ (nI 0 ≤ wh ∧ wh ≤ nI 3) then -2 else nI 0
