def ePass (days : Int32) (day : Int32) : Int32 := if ¬ (nI 1 ≤ days ∧ days ≤ nI 60) then -2 else if ¬ (day + days ≤ nI 9999) then -4 else nI 0
def eSetPrice (price : Int32) (had : Int32) : Int32 := if ¬ (nI 1 ≤ price ∧ price ≤ nI 9999) then -2 else if had = price then -5 else nI 0
def eBring (un : Int32) (dl : Int32) (lf : Int32) (bz : Nat) : Int32 := if ¬ ((nI 1 ≤ un ∧ un ≤ nI 999) ∧ (nI 1 ≤ dl ∧ dl ≤ lf)) then -2 else if 40 ≤ bz then -3 else nI 0
def eBreak (un : Int32) (sh : Int32) : Int32 := if ¬ (nI 1 ≤ un ∧ un ≤ nI 999) then -2 else if ¬ (un ≤ sh) then -4 else nI 0
def eRecall (un : Int32) : Int32 := if un = 0 then -5 else nI 0
def eOrder (un : Int32) (le : Int32) (oz : Nat) : Int32 := if ¬ ((nI 1 ≤ un ∧ un ≤ nI 999) ∧ (nI 0 ≤ le ∧ le ≤ nI 60)) then -2 else if 30 ≤ oz then -3 else nI 0
