def zstg (z : Nat → Int32) (b : Nat) : Nat := xreach (z 955) (z 956) (z 957) (zB z b 2) (zG z (zB z b 0).toNatClampNeg 1)
def zputb (z : Nat → Int32) (g u d : Int32) (bz : Nat) : Nat → Int32 := znote (upd (upd (upd (upd (upd z 2 (nI (bz + 1))) (94 + 10 * bz + 0) g) (94 + 10 * bz + 1) u) (94 + 10 * bz + 2) d) (94 + 10 * bz + 3) u) (nI 0) (nI bz) u
def zwaste (z : Nat → Int32) (b : Nat) (u : Int32) (ca : Nat) : Nat → Int32 := znote (zadd (zadd z b 3 (-u)) b (6 + ca) u) (nI 3) (nI b) u
def zsumIf (z : Nat → Int32) (w : Nat) (g : Int32) : Nat → Int32
  | 0 => nI 0
  | k + 1 => zsumIf z w g k + (if zB z k 0 = g then zB z k w else nI 0)
def zcntIf (z : Nat → Int32) (g : Int32) : Nat → Int32
  | 0 => nI 0
  | k + 1 => zcntIf z g k + (if zB z k 0 = g then nI 1 else nI 0)
def zsumOf (z : Nat → Int32) (w : Nat) (g : Int32) : Nat → Int32
  | 0 => nI 0
  | k + 1 => zsumOf z w g k + (if g = -5 ∨ zB z k 0 = g then zB z k w else nI 0)
def zallw (z : Nat → Int32) : Nat → Int32
  | 0 => nI 0
  | k + 1 => zallw z k + ((zB z k 6 + zB z k 7) + zB z k 8)
def zoo (z : Nat → Int32) (wt : Int32) : Nat → Int32
  | 0 => nI 0
  | k + 1 => zoo z wt k + (if wt = nI 11 then zO z k 1 - zO z k 2 else if wt = nI 12 then (if zO z k 2 = 0 then nI 1 else nI 0) else zO z k 6)
