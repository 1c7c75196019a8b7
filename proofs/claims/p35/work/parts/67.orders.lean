theorem xwish_ok {k gz : Nat} {un le : Int32} (h : k < gz) (h2 : gz ≤ 12) (hu : (nI 1 ≤ un ∧ un ≤ nI 999) ∧ nI 0 ≤ le ∧ le ≤ nI 60) : xwisherr (nI k) un le gz = nI 0 := by
  unfold xwisherr
  rw [if_neg (fun q => q (xhas_of h (by omega))), if_neg (fun q => q hu)]
/-- what the class fills an order with, of a state T -/
def xpr (T : Nat → Nat → Int32) (b : Nat) : UInt32 := xprice (T 1 (T 6 b).toNatClampNeg) (xfl (T 31) (xstg (T 30) (T 8) (T 2) (T 6) b))
def xF1 (T : Nat → Nat → Int32) (le wa : Int32) (gd n : Nat) (fb fu fc : Nat → Int32) (pric : Nat → UInt32) : XF := xtk (T 6) (T 8) (xfu (xpr T) pric n) (T 1) (T 38 0) le wa gd n (nI gd) 40 (0, nI 0, fb, fu, fc, T 9)
def xF2 (T : Nat → Nat → Int32) (le wa sb : Int32) (gd n k9 : Nat) (fb fu fc : Nat → Int32) (pric : Nat → UInt32) : XF := xsubs (T 6) (T 8) (xfu (xpr T) pric n) (T 1) (T 38 0) le wa gd n (T 4) (gd * 4) (xF1 T le wa gd n fb fu fc pric) (if sb = 0 then 0 else k9)
def tWg (wh : Int32) (a0 : Int32) (a1 : Int32) (a2 : Int32) (a3 : Int32) : Int32 := if wh = nI 0 then a0 else if wh = nI 1 then a1 else if wh = nI 2 then a2 else a3