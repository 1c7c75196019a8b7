def xlet (text : Nat → Int32) (tl j : Nat) : Int32 := if j < tl then text j else (-1)
