def zogIf (z : Nat → Int32) (g : Int32) : Nat → Int32
  | 0 => nI 0
  | k + 1 => zogIf z g k + (if zO z k 0 = g then zO z k 2 else nI 0)
def mGood (wn : Nat) (b0 : Int32) (b1 : Int32) (b2 : Int32) (b3 : Int32) (b4 : Int32) : Int32 := if wn < 3 then b0 else if wn = 3 then b1 else if wn = 4 then b2 else if wn = 5 then b3 else b4
def mBatch (wn : Nat) (b0 : Int32) (b1 : Int32) (b2 : Int32) (b3 : Int32) (b4 : Int32) : Int32 := if wn < 6 then b0 else if wn = 6 then b1 else if wn < 10 then b2 else if wn = 10 then b3 else b4
def mOrder (wn : Nat) (b0 : Int32) (b1 : Int32) (b2 : Int32) (b3 : Int32) : Int32 := if wn < 6 then b0 else if wn = 6 then b1 else if wn = 7 then b2 else b3
