def ePl (v : Int32) (ls : Int32) : Int32 := if v < 0 then -2 else if ls ≤ v then -5 else nI 0
theorem xpl_unknown {g v : Int32} {gz : Nat} {listed : Nat → Int32} (h : ¬ xhas g gz) : xplerr g v gz listed = (-1) := by
  unfold xplerr
  exact if_pos h
theorem xpl_known {k gz : Nat} {v : Int32} {listed : Nat → Int32} (h : k < gz) (h2 : gz ≤ 12) : xplerr (nI k) v gz listed = ePl v (listed k) := by
  unfold xplerr ePl
  rw [if_neg (fun q => q (xhas_of h (by omega))), nI_clamp (by omega)]
theorem ePl_ok {p k : Nat} (h : p < k) (h2 : k ≤ 4) : ePl (nI p) (nI k) = nI 0 := by
  unfold ePl
  rw [if_neg (Int32.not_lt.mpr ?_), if_neg (Int32.not_le.mpr ?_)]
  · rw [Int32.lt_iff_toInt_lt, nI_toInt (by omega), nI_toInt (by omega)]
    omega
  · rw [Int32.le_iff_toInt_le, nI_toInt (by omega), Int32.toInt_zero]
    omega
